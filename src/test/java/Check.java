import java.lang.reflect.InvocationTargetException;
import java.lang.reflect.Method;
import java.util.NoSuchElementException;
import java.util.Set;
import java.util.TreeMap;
import java.util.TreeSet;
import java.util.regex.Matcher;
import java.util.regex.Pattern;

/** What all tests by hand use: texts of towns, feeding them, and counting the answers that are not as due. */
abstract class Check {
    static final int NONE = -1;
    static final int OTHERS = -2;
    static final int KIND_CANT = 1;
    static final int KIND_NOBODY = 2;
    static final int KIND_TWICE = 3;
    static final int KIND_NUMBER = 4;
    static final int KIND_MANY = 5;

    /** Two who can only be one another: the one LOT is that y leads LIFE 0 and x LIFE 1. */
    static final String TWO = "person x mayor skill 5 purse 30 debt 4 home 5;person y plain skill 2 purse 20 debt 3 home 5;";
    static final String THREE = "person ann plain skill 3 purse 100 debt 10 home 5 ; person bob miser skill 6 purse 40 debt 0 home 2 ;"
            + " person cid thief skill 5 purse 10 debt 30 home 9 ;";
    static final String FOUR = alike("a", 50) + alike("b", 50) + alike("c", 50) + alike("d", 50);
    static final String SIX = FOUR + alike("e", 50) + alike("f", 50);

    private static final Pattern TEST_NAME = Pattern.compile("promise([0-9]+)[A-Z].*");

    static int passed = 0;
    static int wrong = 0;

    interface Call {
        int answer();
    }

    static void due(String what, long got, long want) {
        if (got == want) {
            passed++;
        } else {
            wrong++;
            System.out.println(what + ": answered " + got + ", due is " + want);
        }
    }

    static void due(String what, boolean got, boolean want) {
        due(what, got ? 1 : 0, want ? 1 : 0);
    }

    static void due(String what, String got, String want) {
        due(what + ": " + got + " for " + want, got.equals(want), true);
    }

    static void refused(String what, Call call) {
        long thrown = 0;
        try {
            call.answer();
        } catch (NoSuchElementException e) {
            thrown = 1;
        }
        due(what + " throws", thrown, 1);
    }

    static String person(String name, String kind, int skill, int purse, int debt, int home) {
        return "person " + name + " " + kind + " skill " + skill + " purse " + purse + " debt " + debt + " home " + home + ";";
    }

    static String alike(String name, int purse) {
        return person(name, "plain", 3, purse, 0, 5);
    }

    static int feed(BorrowedLives x, String text) {
        int there = x.count(12);
        for (int i = 0; i < text.length(); i += 24) {
            long[] w = new long[3];
            for (int k = 0; k < 24 && i + k < text.length(); k++) {
                w[k / 8] |= (long) text.charAt(i + k) << (56 - 8 * (k % 8));
            }
            there = x.feed(w[0], w[1], w[2]);
        }
        return there;
    }

    static BorrowedLives town(String text) {
        BorrowedLives x = new BorrowedLives();
        feed(x, text);
        due("town " + text, x.town(), 0);
        return x;
    }

    static void year(BorrowedLives x, String text) {
        feed(x, text);
        due("year " + text, x.year(), 0);
    }

    /** The FAULT is due behind the text ahead of it, at the text that is told as wrong. */
    static void townFault(int kind, String ahead, String wrongText) {
        BorrowedLives x = town(TWO);
        feed(x, ahead + wrongText);
        due("fault of " + ahead + "[" + wrongText + "]", x.town(), kind + 16 * ahead.length());
        due("people stay", x.count(0), 2);
        due("tape is taken", x.count(12), 0);
    }

    static void yearFault(int kind, String ahead, String wrongText) {
        BorrowedLives x = town(TWO);
        year(x, "lot 1;");
        feed(x, ahead + wrongText);
        due("fault of " + ahead + "[" + wrongText + "]", x.year(), kind + 16 * ahead.length());
        due("year stays", x.count(9), 1);
        due("tape is taken", x.count(12), 0);
    }

    /** All that can be seen by hand of an object, but for its MARKS: a refused call leaves it alike. */
    static String look(BorrowedLives x) {
        return seen(x, 0, 1, 2, 3, 4, 5, 6, 7, 8, 9, 10, 11, 12);
    }

    /** What a MARK holds of it. */
    static String held(BorrowedLives x) {
        return seen(x, 3, 4, 5, 6, 7, 8, 10);
    }

    private static String seen(BorrowedLives x, int... counts) {
        StringBuilder seen = new StringBuilder();
        for (int what : counts) {
            seen.append(x.count(what)).append(' ');
        }
        for (int life = 0; life < x.count(0); life++) {
            seen.append('|');
            for (int what = 0; what < 7; what++) {
                seen.append(x.life(life, what)).append(' ');
            }
        }
        return seen.toString();
    }

    /** All that can be foreseen of an object as it is now. */
    static String foresee(BorrowedLives x) {
        StringBuilder seen = new StringBuilder();
        seen.append(x.least(NONE)).append(' ').append(x.how()).append(' ').append(x.ask()).append(' ').append(x.pairs(NONE));
        seen.append(' ').append(x.law(7)).append(' ').append(x.years(5, 2, 0)).append(' ').append(x.years(5, 2, 1));
        for (int life = 0; life < x.count(0); life++) {
            seen.append('|').append(x.least(life)).append(' ').append(x.prepare(life, 0)).append(' ').append(x.prepare(life, 1));
            seen.append(' ').append(x.who(life)).append(' ').append(x.pairs(life)).append(' ').append(x.deeds(life, life, 3, NONE));
        }
        return seen.toString();
    }

    /** The call answers as due and leaves all as it is. */
    static void leaves(String what, BorrowedLives x, Call call, int want) {
        String before = look(x);
        due(what, call.answer(), want);
        due(what + " leaves all", look(x), before);
    }

    static int yes(boolean answer) {
        return answer ? 1 : 0;
    }

    /** Runs each test of a class, whose name begins with its promise's number; each promise between must have one. */
    static void runAll(Class<?> tests, int firstPromise, int lastPromise) {
        TreeMap<String, Method> byName = new TreeMap<>();
        Set<Integer> promises = new TreeSet<>();
        for (Method test : tests.getDeclaredMethods()) {
            Matcher name = TEST_NAME.matcher(test.getName());
            if (name.matches()) {
                byName.put(test.getName(), test);
                promises.add(Integer.parseInt(name.group(1)));
            }
        }
        for (int promise = firstPromise; promise <= lastPromise; promise++) {
            due("promise " + promise + " has a test", promises.contains(promise), true);
        }
        byName.values().forEach(Check::run);
        end(tests.getSimpleName() + ", " + byName.size() + " tests");
    }

    private static void run(Method test) {
        int before = wrong;
        try {
            test.invoke(null);
        } catch (InvocationTargetException e) {
            wrong++;
            System.out.println("threw " + e.getCause());
        } catch (IllegalAccessException e) {
            throw new IllegalStateException(e);
        }
        if (wrong > before) {
            System.out.println("FAILED: " + test.getName());
        }
    }

    static void end(String tests) {
        System.out.println(tests + ": " + passed + " passed, " + wrong + " failed");
        System.exit(wrong == 0 ? 0 : 1);
    }
}
