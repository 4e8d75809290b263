import java.lang.management.ManagementFactory;
import java.util.NoSuchElementException;

/** 512 of each of the dearest calls on a full town make next to nothing, and no arguments in any state make the machine throw. */
public final class RoomTest {
    static final int CALLS = 512;
    static int wrong = 0;

    interface Call {
        void make(int i);
    }

    public static void main(String[] args) {
        made("an object", 1, i -> new BorrowedLives(), 400_000);
        BorrowedLives x = full();
        made("least, how, ask", CALLS, i -> {
            x.hide(0, i % 2);
            x.least(-1);
            x.how();
            x.ask();
        }, 10_000);
        made("prepare", 12, i -> x.prepare(i % 6, 1), 10_000);
        made("law", CALLS, i -> x.law(i), 10_000);
        made("deeds", CALLS, i -> x.deeds(i % 6, 0, 7, i % 8 - 1), 10_000);
        made("pairs", CALLS, i -> x.pairs(-1), 10_000);
        made("years", CALLS, i -> x.years(i, 20, 0), 10_000);
        made("by hand", CALLS, i -> {
            x.lot(i);
            x.day();
            x.swap(0, 1);
            x.mark(i % 4, i % 3 == 0);
            x.home();
            x.undo();
        }, 10_000);
        made("towns", CALLS, i -> {
            PromisesTest.feed(x, PromisesTest.SIX);
            x.town();
        }, 1_200_000);
        anyArguments();
        System.out.println("RoomTest: " + wrong + " failed");
        System.exit(wrong == 0 ? 0 : 1);
    }

    static BorrowedLives full() {
        BorrowedLives x = new BorrowedLives();
        StringBuilder s = new StringBuilder();
        for (char c = 'a'; c < 'g'; c++) {
            s.append("person ").append(c).append(" plain skill ").append(c - 'a' + 3).append(" purse 999 debt 99 home 5;");
        }
        PromisesTest.feed(x, s + "spends money*(1+able)-not(owed=neat)*(3+(2*able))<7 or able*9;mends able-neat+(money<owed);");
        x.town();
        return x;
    }

    static void made(String what, int calls, Call call, long most) {
        com.sun.management.ThreadMXBean bean = (com.sun.management.ThreadMXBean) ManagementFactory.getThreadMXBean();
        long id = Thread.currentThread().getId();
        call.make(0);
        long before = bean.getThreadAllocatedBytes(id);
        for (int i = 0; i < calls; i++) {
            call.make(i);
        }
        long bytes = bean.getThreadAllocatedBytes(id) - before;
        if (bytes > most) {
            wrong++;
            System.out.println(what + ": " + bytes + " bytes in " + calls + " calls");
        }
    }

    /** Every call with every mix of edges, at home and away, with nobody and with a full town. */
    static void anyArguments() {
        int[] edges = {Integer.MIN_VALUE, -2, -1, 0, 1, 5, 6, 7, 999, 1000, 9999, 10000, 1 << 30, Integer.MAX_VALUE};
        BorrowedLives[] objects = {new BorrowedLives(), full(), full()};
        objects[2].lot(7);
        for (BorrowedLives x : objects) {
            for (int a : edges) {
                x.judged(a);
                x.least(a);
                x.pairs(a);
                x.who(a);
                x.count(a);
                x.mark(a, true);
                x.law(a);
                for (int b : edges) {
                    x.person(a, b);
                    x.life(a, b);
                    x.may(a, b);
                    x.odds(a, b);
                    x.swap(a, b);
                    x.hide(a, b);
                    x.prepare(a, b);
                    for (int c : edges) {
                        x.tale(a, b, c);
                        x.years(a, b, c);
                        throwing(x, a, b, c);
                    }
                }
            }
        }
    }

    static void throwing(BorrowedLives x, int a, int b, int c) {
        for (int what = -2; what < 4; what++) {
            try {
                x.deeds(a, b, c, what);
            } catch (NoSuchElementException e) {
                // as told
            }
            try {
                x.rests(a, b, c, what);
            } catch (NoSuchElementException e) {
                // as told
            }
        }
    }
}
