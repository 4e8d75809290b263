import java.util.ArrayList;
import java.util.List;
import java.util.NoSuchElementException;
import java.util.Random;

/** Runs of drawn calls on BorrowedLives and on Model, which must answer alike; the seeds are told, so that runs can be made again. */
public final class ModelTest {
    interface Call {
        long answer();
    }

    static final long THROWN = Long.MIN_VALUE;
    static final String[] NAMES = {"ann", "bob", "money", "d", "eeeeeeee", "fay", "able"};
    static int wrong = 0;
    static long calls = 0;

    final Random random;
    final BorrowedLives x = new BorrowedLives();
    final Model m = new Model();
    final List<String> log = new ArrayList<>();
    int people;
    /** In such a run little is undone before there is much to undo. */
    final boolean patient;

    ModelTest(long seed) {
        // Random draws alike first by seeds that lie close: so they are spread.
        random = new Random(seed * 0x9E3779B97F4A7C15L);
        patient = below(4) == 0;
    }

    public static void main(String[] args) {
        long first = args.length > 0 ? Long.parseLong(args[0]) : 1;
        long runs = args.length > 1 ? Long.parseLong(args[1]) : 400;
        for (long seed = first; seed < first + runs && wrong < 10; seed++) {
            new ModelTest(seed).run(seed);
        }
        System.out.println("ModelTest: " + calls + " calls, " + wrong + " wrong");
        System.exit(wrong == 0 ? 0 : 1);
    }

    int below(int n) {
        return random.nextInt(n);
    }

    void same(String what, Call mine, Call due) {
        long a = answer(mine);
        long b = answer(due);
        calls++;
        log.add(what + " -> " + b);
        if (a != b) {
            wrong++;
            System.out.println("  " + what + " answered " + a + ", due is " + b);
            log.forEach(l -> System.out.println("      " + l));
        }
    }

    static long answer(Call call) {
        try {
            return call.answer();
        } catch (NoSuchElementException e) {
            return THROWN;
        }
    }

    static long yes(boolean b) {
        return b ? 1 : 0;
    }

    void run(long seed) {
        log.add("seed " + seed);
        int before = wrong;
        tellTown();
        int n = 20 + below(patient ? 300 : 100);
        for (int i = 0; i < n && wrong == before; i++) {
            drawCall();
            if (below(6) == 0) {
                lookAll();
            }
        }
    }

    void feed(String text) {
        for (int i = 0; i < text.length(); i += 24) {
            long[] w = new long[3];
            for (int k = 0; k < 24 && i + k < text.length(); k++) {
                w[k / 8] |= (long) (text.charAt(i + k) & 255) << (56 - 8 * (k % 8));
            }
            same("feed " + text.substring(i, Math.min(text.length(), i + 24)), () -> x.feed(w[0], w[1], w[2]), () -> m.feed(w[0], w[1], w[2]));
        }
    }

    void tellTown() {
        feed(perhapsBroken(drawTown()));
        same("town", x::town, m::town);
        people = x.count(0);
        lookAll();
    }

    String name() {
        return NAMES[below(below(12) == 0 ? NAMES.length : Math.max(1, people))];
    }

    String drawTown() {
        people = below(4) == 0 ? below(7) : 2 + below(4);
        StringBuilder s = new StringBuilder();
        for (int i = 0; i < people; i++) {
            s.append("person ").append(NAMES[i]).append(' ').append(Model.KINDS.get(below(4)))
                    .append(" skill ").append(below(10)).append(" purse ").append(below(below(3) == 0 ? 1000 : 120))
                    .append(" debt ").append(below(3) == 0 ? 0 : below(below(3) == 0 ? 1000 : 60)).append(" home ").append(below(10)).append(" ; ");
        }
        for (int i = below(4); i > 0 && people > 1; i--) {
            s.append("bar ").append(name()).append(' ').append(name()).append(';');
        }
        if (below(2) == 0) {
            s.append("sign ").append(below(below(2) == 0 ? 1000 : 30)).append(";\n");
        }
        for (String law : new String[] {"spends", "mends", "good", "wish"}) {
            if (below(2) == 0) {
                s.append(law).append(' ').append(e(law.equals("good") ? 3 : 5, 0)).append(" ;");
            }
        }
        return s.toString();
    }

    String e(int facts, int within) {
        StringBuilder s = new StringBuilder(part(facts, within));
        String[] ops = {" + ", "-", "*", " < ", "=", " and ", " or "};
        boolean compared = false;
        for (int i = below(4); i > 0; i--) {
            int op = below(ops.length);
            if (op == 3 || op == 4) {
                op = compared && below(15) > 0 ? 0 : op;
                compared = true;
            }
            if (op >= 5) {
                compared = false;
            }
            s.append(ops[op]).append(part(facts, within));
        }
        return s.toString();
    }

    String part(int facts, int within) {
        int r = below(10);
        if (r < 2 && (within < 4 || below(10) == 0)) {
            return r == 0 ? "not " + part(facts, within + 1) : "(" + e(facts, within + 1) + ")";
        }
        String[] words = {"money", "owed", "neat", "able", "trade"};
        return r < 6 ? " " + words[below(below(25) == 0 ? 5 : facts)] + " " : "" + below(below(4) == 0 ? 10000 : 12);
    }

    String drawYear() {
        StringBuilder s = new StringBuilder();
        boolean away = false;
        for (int i = below(10) == 0 ? 35 + below(8) : below(14); i > 0; i--) {
            int r = below(12);
            if (!away && r > 1) {
                r = 2 + below(3);
            }
            s.append(switch (r) {
                case 0, 2 -> "hide " + name() + " " + below(below(3) == 0 ? 1000 : 60);
                case 1, 3, 4 -> "lot " + below(10000);
                case 5, 6 -> "swap " + name() + " " + name();
                case 7 -> "home";
                default -> "day";
            }).append(" ; ");
            away = r == 7 ? false : r == 1 || r == 3 || r == 4 || away;
        }
        return s.toString();
    }

    /** A sign put in, taken out or changed, or a word, now and then. */
    String perhapsBroken(String text) {
        if (below(3) > 0 || text.isEmpty()) {
            return text;
        }
        int at = below(text.length());
        String[] ins = {" ", ";", "9", "x", "#", "(", " person ", " ann ", " 12345 ", "abcdefghi", " not ", " home ", " bob ", "Q", "<", " day ;", " lot ", " sign 4;", "\u00e9", "\u007f", "\t"};
        int until = Math.min(text.length(), at + below(3) * below(4));
        return text.substring(0, at) + (below(3) == 0 ? "" : ins[below(ins.length)]) + text.substring(until);
    }

    int who() {
        return below(9) == 0 ? below(10) - 2 : below(Math.max(1, people));
    }

    void drawCall() {
        int a = who();
        int b = who();
        int c;
        switch (below(26)) {
            case 0 -> {
                c = below(4) == 0 ? below(1002) - 1 : below(80);
                same("hide " + a + " " + c, () -> yes(x.hide(a, c)), () -> yes(m.hide(a, c)));
            }
            case 1, 2, 3 -> {
                c = below(10) == 0 ? below(2) * 10001 - 1 : below(10000);
                same("lot " + c, () -> x.lot(c), () -> m.lot(c));
            }
            case 4 -> same("swap " + a + " " + b, () -> yes(x.swap(a, b)), () -> yes(m.swap(a, b)));
            case 5, 6, 7, 8, 9 -> same("day", x::day, m::day);
            case 10 -> same("home", x::home, m::home);
            case 11, 12 -> {
                for (int i = below(20) == 0 ? 18 : patient ? 0 : 1; i > 0; i--) {
                    same("undo", () -> yes(x.undo()), () -> yes(m.undo()));
                    same("day since", () -> x.count(4), () -> m.count(4));
                    same("purse", () -> x.life(0, 0), () -> m.life(0, 0));
                    same("hidden", () -> x.life(0, 3), () -> m.life(0, 3));
                }
            }
            case 13 -> {
                if (below(3) == 0) {
                    feed(perhapsBroken(drawYear()));
                    same("year", x::year, m::year);
                }
            }
            case 14 -> {
                c = below(5) - 1;
                same("judged " + c, () -> x.judged(c), () -> m.judged(c));
            }
            case 15 -> {
                c = below(4) - 1;
                same("prepare " + a + " " + c, () -> x.prepare(a, c), () -> m.prepare(a, c));
            }
            case 16, 17 -> {
                int days = below(8) == 0 ? below(10) - 1 : 1 + below(5);
                c = below(days + 3) - 1;
                same("deeds " + a + " " + b + " " + days + " " + c, () -> x.deeds(a, b, days, c), () -> m.deeds(a, b, days, c));
            }
            case 18 -> {
                int day = below(8) == 0 ? below(10) - 1 : 1 + below(3);
                c = below(6) == 0 ? below(10003) - 1 : tellable(a, day);
                same("tale " + a + " " + day + " " + c, () -> yes(x.tale(a, day, c)), () -> yes(m.tale(a, day, c)));
            }
            case 19 -> {
                c = below(1004) - 2;
                same("law " + c, () -> x.law(c), () -> m.law(c));
            }
            case 20 -> {
                int[] r = {below(11) - 1 + below(2), below(10), below(10)};
                int w = below(8) - 2;
                same("rests", () -> x.rests(r[0], r[1], r[2], w), () -> m.rests(r[0], r[1], r[2], w));
            }
            case 21 -> {
                int years = below(8) == 0 ? below(24) - 1 : 1 + below(5);
                int seed = below(10000);
                c = below(5) - 1;
                same("years " + seed + " " + years + " " + c, () -> x.years(seed, years, c), () -> m.years(seed, years, c));
            }
            case 22, 23 -> {
                c = below(6) - 1;
                boolean back = below(patient ? 20 : 2) == 0;
                same("mark " + c + " " + back, () -> yes(x.mark(c, back)), () -> yes(m.mark(c, back)));
            }
            case 24 -> {
                if (below(12) == 0) {
                    tellTown();
                }
            }
            default -> foresee();
        }
    }

    /** A purse that some LOT would bring, so that TALES fit now and then. */
    int tellable(int life, int day) {
        List<int[]> lots = m.fitting();
        if (lots.isEmpty() || life < 0 || life >= m.n() || day < 1 || day > 7) {
            return below(100);
        }
        return m.week(lots.get(below(lots.size())), m.town.sign(), day, -1, 0).purse[life];
    }

    void foresee() {
        same("ask", x::ask, m::ask);
        same("how", x::how, m::how);
        for (int i = -2; i <= people; i++) {
            int p = i;
            same("who " + i, () -> x.who(p), () -> m.who(p));
            same("least " + i, () -> x.least(p), () -> m.least(p));
            same("pairs " + i, () -> x.pairs(p), () -> m.pairs(p));
            int o = below(Math.max(1, people + 1)) - below(2);
            same("odds " + i + " " + o, () -> x.odds(p, o), () -> m.odds(p, o));
        }
    }

    void lookAll() {
        for (int i = -1; i < 14; i++) {
            int w = i;
            same("count " + i, () -> x.count(w), () -> m.count(w));
        }
        same("lots", x::lots, m::lots);
        for (int i = -1; i <= people; i++) {
            int p = i;
            for (int k = -1; k < 8; k++) {
                int w = k;
                same("life " + i + " " + k, () -> x.life(p, w), () -> m.life(p, w));
                same("person " + i + " " + k, () -> x.person(p, w), () -> m.person(p, w));
                same("may " + i + " " + k, () -> yes(x.may(p, w)), () -> yes(m.may(p, w)));
            }
        }
    }
}
