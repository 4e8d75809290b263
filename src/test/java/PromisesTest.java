/** Each promise of the document by examples worked out by hand: ordinary inputs, edges, wrong inputs. */
public final class PromisesTest extends Check {
    public static void main(String[] args) {
        newObject();
        feeding();
        readingTowns();
        faultsOfTowns();
        faultsOfExpressions();
        readingYears();
        peopleAndLives();
        barred();
        hiding();
        drawing();
        swapping();
        days();
        spending();
        laws();
        goingHome();
        undoing();
        judging();
        lotsAndOdds();
        leastHarm();
        preparing();
        deeds();
        pairs();
        tales();
        signing();
        resting();
        manyYears();
        marks();
        counts();
        end("PromisesTest");
    }

    // Promise 1
    static void newObject() {
        BorrowedLives x = new BorrowedLives();
        int[] due = {0, 0, 50, 0, 0, 0, 0, 0, 0, 0, 0, 0, 0};
        for (int i = 0; i < due.length; i++) {
            due("new count " + i, x.count(i), due[i]);
        }
        due("new person", x.person(0, 0), NONE);
        due("new life", x.life(0, 0), NONE);
        due("new may", x.may(0, 0), false);
        due("new hide", x.hide(0, 0), false);
        due("new lot", x.lot(0), NONE);
        due("new swap", x.swap(0, 1), false);
        due("new day", x.day(), NONE);
        due("new home", x.home(), NONE);
        due("new lots", x.lots(), 0);
        due("new least", x.least(NONE), -2);
        due("new pairs", x.pairs(NONE), 0);
        due("new pairs of 0", x.pairs(0), -2);
        due("new how", x.how(), 0);
        due("new tale", x.tale(0, 1, 0), false);
        due("new years", x.years(0, 20, 2), 0);
        refused("new deeds", () -> x.deeds(0, 0, 1, NONE));
    }

    // Promise 2
    static void feeding() {
        BorrowedLives x = new BorrowedLives();
        due("highest byte first", x.feed(0x6461792020202020L, 0x3b00000000000000L, 0x0000000000000000L), 9);
        due("day ; cannot be read as a town", x.town(), 1);
        due("left out: 9, 11, 31, 127, 128, 255", x.feed(0x090b1f7f80ff0000L, -1L, 0L), 0);
        due("10, 32 and 126 are not", x.feed(0x0a207e0000000000L, 0x000000000000000aL, 32L), 5);
        for (int i = 0; i < 41; i++) {
            x.feed(0x2020202020202020L, 0x2020202020202020L, 0x2020202020202020L);
        }
        due("989 signs", x.count(12), 989);
        due("1,000 at most", x.feed(0x2020202020202020L, 0x2020202020202020L, 0x2020202020202020L), 1000);
        due("still", x.feed(0x4141414141414141L, 0L, 0L), 1000);
        due("1,000 with the ~ ahead", x.town(), 1 + 16 * 2);
        due("empty", x.feed(0L, 0L, 0L), 0);
    }

    // Promise 3
    static void readingTowns() {
        BorrowedLives x = town(TWO + "bar x y;sign 999;");
        due("people", x.count(0), 2);
        due("bars", x.count(1), 1);
        due("sign", x.count(2), 999);
        feed(x, "");
        due("an empty town", x.town(), 0);
        due("nobody", x.count(0), 0);
        due("sign is 50 again", x.count(2), 50);
        town("person\nmoney\nthief skill9purse999debt0999home0;person trade plain skill 0 purse 0 debt 0 home 9 ; sign 0;");
        town("spends((((1)+money)))*not not not 0 or 9999<able and trade=neat-owed;");
        due("skill without a blank", town("person a miser skill9purse7debt5home3;").person(0, 1), 9);
        town(alike("a", 1) + alike("aa", 2) + alike("b", 3) + alike("bb", 4) + alike("ab", 5) + alike("ba", 6) + "bar ab ba;bar aa bb;bar a b;");
        town(alike("zzzzzzzz", 1) + alike("zzzzzzzy", 2) + alike("yzzzzzzz", 3) + alike("z", 4) + alike("money", 5) + alike("trade", 6));
        for (int i = 0; i < 400; i++) {
            feed(x, TWO + "spends money + owed - neat;");
            x.town();
        }
        x.lot(0);
        x.day();
        due("the law of the 400th", x.life(0, 0), 1 + 44);
        String longest = "person a mayor skill 0 purse 9 debt 0 home 0;person b plain skill 0 purse 0 debt 5 home 0;spends 1";
        String filled = longest + "-1+1".repeat((999 - longest.length()) / 4);
        BorrowedLives f = town(filled + ";");
        f.lot(0);
        f.day();
        due("a law as long as can be: 1 is spent", f.life(0, 0), 8);
        due("and pays", f.life(1, 1), 4);
        BorrowedLives y = town(TWO);
        y.hide(0, 3);
        y.lot(1);
        y.day();
        y.home();
        y.tale(0, 1, 1);
        y.mark(0, false);
        y.mark(2, false);
        year(y, "day;");
        feed(y, TWO);
        due("told once more", y.town(), 0);
        for (int what : new int[] {3, 4, 5, 6, 9, 10, 11}) {
            due("all is new: " + what, y.count(what), 0);
        }
        due("no mark", y.mark(0, true), false);
        due("no mark", y.mark(2, true), false);
        due("purses as told", y.count(7), 50);
    }

    static void faultsOfTowns() {
        townFault(KIND_CANT, "", "town");
        townFault(KIND_CANT, "", ";");
        townFault(KIND_CANT, "", "Person");
        townFault(KIND_CANT, "", "personas x");
        townFault(KIND_CANT, "", "abcdefghi");
        townFault(KIND_CANT, "person ", "home plain");
        townFault(KIND_CANT, "person ", "7");
        townFault(KIND_CANT, "person ", "abcdefghi plain");
        townFault(KIND_CANT, "person abcdefgh ", "king");
        townFault(KIND_CANT, "person abcdefgh ", "not");
        townFault(KIND_CANT, "person abcdefgh ", "day");
        townFault(KIND_CANT, "person abcdefgh ", "5");
        townFault(KIND_CANT, "person a", "");
        townFault(KIND_CANT, "person a  ", "");
        townFault(KIND_CANT, "person a plain ", "purse 1");
        townFault(KIND_CANT, "person a plain skill ", "x");
        townFault(KIND_CANT, "person a plain skill ", "00001");
        townFault(KIND_NUMBER, "person a plain skill ", "10");
        townFault(KIND_NUMBER, "person a plain skill 0009 purse ", "1000 x");
        townFault(KIND_NUMBER, "person a plain skill 9 purse 999 debt ", "1000");
        townFault(KIND_NUMBER, "person a plain skill 9 purse 999 debt 999 home ", "10;");
        townFault(KIND_CANT, "person a plain skill 9 purse 999 debt 999 home 9", "");
        townFault(KIND_CANT, "person a plain skill 9 purse 999 debt 999 home 9 ", "person b");
        townFault(KIND_TWICE, TWO + "person ", "x");
        townFault(KIND_MANY, SIX, "person home");
        townFault(KIND_CANT, SIX, "people");
        townFault(KIND_NOBODY, TWO + "bar ", "z x;");
        townFault(KIND_NOBODY, TWO + "bar x ", "z;");
        townFault(KIND_NOBODY, "bar ", "x y;" + TWO);
        townFault(KIND_CANT, TWO + "bar ", "day");
        townFault(KIND_CANT, TWO + "bar x ", ";");
        townFault(KIND_TWICE, TWO + "bar x ", "x;");
        townFault(KIND_TWICE, TWO + "bar x y;bar y x;bar x ", "y;");
        townFault(KIND_NUMBER, "sign ", "1000;");
        townFault(KIND_CANT, "sign ", ";");
        townFault(KIND_TWICE, "sign 50;", "sign 50;");
        townFault(KIND_TWICE, "wish 1;", "wish 1;");
        townFault(KIND_TWICE, "mends 1;spends 1;good 1;", "spends 1;");
        townFault(KIND_CANT, "sign 5", ",");
    }

    static void faultsOfExpressions() {
        townFault(KIND_CANT, "spends ", ";");
        townFault(KIND_CANT, "spends ", "- 1;");
        townFault(KIND_CANT, "spends ", "skill;");
        townFault(KIND_CANT, "spends 1 ", "1;");
        townFault(KIND_CANT, "spends 1 < 2 ", "= 3;");
        townFault(KIND_CANT, "spends 1 = 2 ", "< 3;");
        townFault(KIND_CANT, "spends 1 and ", "and 2;");
        townFault(KIND_CANT, "spends (1", ";");
        townFault(KIND_CANT, "spends 1", ");");
        townFault(KIND_CANT, "spends 1 ", "> 2");
        townFault(KIND_CANT, "spends ", "12345;");
        townFault(KIND_CANT, "good money + ", "able;");
        townFault(KIND_CANT, "good ", "trade;");
        townFault(KIND_MANY, "wish not not not not not ", "not 1;");
        townFault(KIND_MANY, "wish (((((", "able)))));");
        townFault(KIND_MANY, "wish (((((", "(1))))));");
        townFault(KIND_CANT, "wish (((((", ";");
        townFault(KIND_MANY, "wish 1 + (not (not (", "not 7");
        town("wish 1 < 2 and 3 < 4 or (5 = 6);good owed - neat * 9999;");
    }

    // Promise 4
    static void readingYears() {
        BorrowedLives x = town(TWO);
        year(x, "hide x 999 ; lot 9999;swap y x;day;home ;");
        due("lines", x.count(9), 5);
        year(x, " ");
        due("no lines", x.count(9), 0);
        year(x, "day;".repeat(40));
        due("40 lines", x.count(9), 40);
        yearFault(KIND_MANY, "day;".repeat(40), "home;");
        yearFault(KIND_CANT, "day;".repeat(40), "week;");
        yearFault(KIND_CANT, "", "week;");
        yearFault(KIND_CANT, "", "person;");
        yearFault(KIND_CANT, "day", "");
        yearFault(KIND_CANT, "day ", "1;");
        yearFault(KIND_NOBODY, "hide ", "z 1;");
        yearFault(KIND_CANT, "hide ", "bar 1;");
        yearFault(KIND_CANT, "hide x ", ";");
        yearFault(KIND_NUMBER, "hide x ", "1000;");
        yearFault(KIND_CANT, "lot ", "10000;");
        yearFault(KIND_CANT, "lot ", "x;");
        yearFault(KIND_TWICE, "swap x ", "x;");
        yearFault(KIND_NOBODY, "swap x ", "z;");
        yearFault(KIND_NOBODY, "swap ", "z x;");
        due("a faulty town leaves the year", x.count(9), 40);
    }

    // Promises 5, 6
    static void peopleAndLives() {
        BorrowedLives x = town(THREE);
        due("kind", x.person(2, 0), 2);
        due("skill", x.person(1, 1), 6);
        due("his own life", x.person(1, 2), 1);
        due("person, other what", x.person(1, 3), NONE);
        due("person, what -1", x.person(1, -1), NONE);
        due("person 3", x.person(3, 0), NONE);
        due("person -1", x.person(-1, 0), NONE);
        int[] life = {10, 30, 9, 0, 2, 0, 0};
        for (int i = 0; i < life.length; i++) {
            due("life 2 " + i, x.life(2, i), life[i]);
        }
        due("life, other what", x.life(0, 7), NONE);
        due("life, what -1", x.life(0, -1), NONE);
        due("life 3", x.life(3, 0), NONE);
        due("life -1", x.life(-1, 0), NONE);
        due("lot", x.lot(0), 0);
        due("ann leads cid's", x.person(0, 2), 2);
        due("self", x.life(2, 4), 0);
        due("kind stays", x.person(0, 0), 0);
    }

    // Promise 7
    static void barred() {
        BorrowedLives x = town(THREE + "bar ann bob;");
        due("barred", x.may(0, 1), false);
        due("not the other way", x.may(1, 0), true);
        due("himself", x.may(2, 2), false);
        due("others", x.may(3, 0), false);
        due("others", x.may(0, 3), false);
        due("others", x.may(-1, 0), false);
        due("others", x.may(0, -1), false);
        due("one lot less", x.lots(), 1);
        due("none leads where he is barred", x.odds(0, 1), 0);
        due("he leads", x.odds(0, 2), 1000000);
    }

    // Promise 8
    static void hiding() {
        BorrowedLives x = town(THREE);
        due("all of it", x.hide(1, 40), true);
        due("hidden", x.life(1, 3), 40);
        due("still in the purse", x.life(1, 0), 40);
        due("more than it has", x.hide(1, 41), false);
        due("stays", x.life(1, 3), 40);
        due("in place of it", x.hide(1, 5), true);
        due("hidden", x.life(1, 3), 5);
        due("nothing", x.hide(1, 0), true);
        due("less than nothing", x.hide(1, -1), false);
        due("life 3", x.hide(3, 0), false);
        due("life -1", x.hide(-1, 0), false);
        due("1000", town(alike("a", 999)).hide(0, 1000), false);
        due("999", town(alike("a", 999)).hide(0, 999), true);
        x.lot(0);
        due("away", x.hide(1, 1), false);
    }

    // Promise 9
    static void drawing() {
        BorrowedLives x = town(SIX);
        due("of 265: 12345 / 65536", x.lot(0), 0);
        int[] first = {1, 0, 3, 2, 5, 4};
        for (int i = 0; i < 6; i++) {
            due("row", x.life(i, 4), first[i]);
        }
        due("away", x.count(3), 1);
        due("away already", x.lot(0), NONE);
        BorrowedLives y = town(SIX);
        // 1103515245 + 12345 = 1103527590, / 65536 is 16838, of 265 that leaves 143.
        due("of 265 by 1", y.lot(1), 143);
        BorrowedLives z = town(THREE);
        due("below 0", z.lot(-1), NONE);
        due("above 9999", z.lot(10000), NONE);
        // 9999 * 1103515245 + 12345 leaves 277,963,676 of 2^31, / 65536 is 4241, of 2 that leaves 1.
        due("9999", z.lot(9999), 1);
        due("alone", town(alike("a", 5)).lot(1), NONE);
        due("barred", town(TWO + "bar x y;").lot(1), NONE);
    }

    // Promise 10
    static void swapping() {
        BorrowedLives x = town(FOUR + "bar a d;");
        due("at home", x.swap(0, 2), false);
        x.lot(0);
        due("a leads b's", x.person(0, 2), 1);
        due("c leads d's", x.person(2, 2), 3);
        due("a may not lead d's", x.swap(0, 2), false);
        due("a would be himself", x.swap(0, 1), false);
        due("the same", x.swap(1, 1), false);
        due("others", x.swap(0, 4), false);
        due("others", x.swap(-1, 0), false);
        due("a and d", x.swap(0, 3), true);
        due("a leads c's", x.person(0, 2), 2);
        due("d leads b's", x.person(3, 2), 1);
        due("selves", x.life(2, 4), 0);
        due("selves", x.life(1, 4), 3);
    }

    // Promise 11
    static void days() {
        BorrowedLives x = town(TWO);
        due("at home", x.day(), NONE);
        x.lot(5);
        for (int i = 1; i <= 7; i++) {
            due("day", x.day(), i);
        }
        due("eighth", x.day(), NONE);
        due("seven", x.count(4), 7);
        x.home();
        x.lot(5);
        due("since the lot", x.day(), 1);
    }

    static void lookTwo(BorrowedLives x, int[] first, int[] second) {
        for (int i = 0; i < 3; i++) {
            due("life 0 what " + i, x.life(0, i), first[i]);
            due("life 1 what " + i, x.life(1, i), second[i]);
        }
    }

    static void spending() {
        BorrowedLives x = town(TWO);
        x.lot(0);
        x.day();
        // y spends 4 of 30 to LIFE 1 and lets the home go; x spends 10 of 24: 3 pay its debt, 7 go to LIFE 0.
        lookTwo(x, new int[] {33, 4, 4}, new int[] {14, 0, 6});
        due("harm", x.life(0, 5), 5);
        due("good", x.life(0, 6), 3);
        due("harm", x.life(1, 5), 3);
        due("good", x.life(1, 6), 5);
        BorrowedLives h = town(TWO);
        h.hide(0, 28);
        h.hide(1, 20);
        h.lot(0);
        h.day();
        // y finds 2 of 30; x finds the 2 that came to the 20: they pay.
        lookTwo(h, new int[] {28, 4, 4}, new int[] {20, 1, 6});
        BorrowedLives t = town("person t thief skill 9 purse 0 debt 0 home 0;person m miser skill 9 purse 25 debt 9 home 9;");
        t.hide(1, 25);
        t.lot(0);
        t.day();
        // m finds nothing in LIFE 0; t finds 18 of the 25 hidden and sends them to LIFE 0.
        lookTwo(t, new int[] {18, 0, 1}, new int[] {7, 9, 9});
        t.day();
        // m spends half of 18 for LIFE 1, t 16 of its 16.
        lookTwo(t, new int[] {25, 0, 2}, new int[] {0, 9, 9});
        due("hidden is as told", t.life(1, 3), 25);
        BorrowedLives p = town(alike("a", 9) + alike("b", 5) + alike("c", 5) + "sign 5;");
        p.lot(0);
        p.day();
        // a's 5 go to b (5 and 5: the first), b's 5 to a (4 and 5), c's 5 to b (9 and 5).
        due("poorest", p.life(0, 0), 9);
        due("poorest", p.life(1, 0), 10);
        due("poorest", p.life(2, 0), 0);
    }

    static void laws() {
        String both = "person p plain skill 7 purse 100 debt 30 home 4;person q plain skill 1 purse 0 debt 0 home 4;";
        BorrowedLives x = town(both + "spends 2 + 3 * able - 1 < money and trade = 0 or owed; mends neat * 0 - 9;");
        x.lot(0);
        x.day();
        // LIFE 0 by q: 4 < 100: 1. LIFE 1 by p, with 1: 22 < 1 no, no debt: 0. Homes fall by 3.
        lookTwo(x, new int[] {99, 30, 1}, new int[] {1, 0, 1});
        x.day();
        lookTwo(x, new int[] {98, 30, 0}, new int[] {2, 0, 0});
        BorrowedLives w = town(both + "spends 9999 * 9999 * 9999; mends (able < 7) * 5;");
        w.lot(0);
        w.day();
        // 999,700,029,999 wraps to -1,027,349,969: nothing is spent. The home: 3 at most, 0 for p.
        due("ints wrap", w.life(0, 0), 100);
        due("ints wrap", w.life(1, 0), 0);
        due("3 at most", w.life(0, 2), 7);
        due("none", w.life(1, 2), 4);
        BorrowedLives n = town(both + "spends 7 * not owed + 5 * not not owed or 0; mends 0;");
        n.lot(0);
        n.day();
        due("or answers 1", n.life(0, 0) + n.life(1, 0), 100);
        due("1 each way", n.life(0, 0), 100);
        BorrowedLives b = town(both + "spends 7 * not owed + 5 * not not owed; mends 1;");
        b.lot(0);
        b.day();
        // LIFE 0 owes: 5; LIFE 1 does not: 7, of the 5 it has.
        due("not", b.life(0, 0), 100);
        due("not not", b.life(1, 0), 0);
        BorrowedLives l = town(both + "spends 1 or 1 and 0; mends 0 and 0 or 1;");
        l.lot(0);
        l.day();
        due("from the left: (1 or 1) and 0", l.life(0, 0), 100);
        due("from the left: (0 and 0) or 1", l.life(0, 2), 5);
        BorrowedLives a = town("person p thief skill 7 purse 9 debt 0 home 0;person q mayor skill 9 purse 9 debt 4 home 0;spends 6;mends (money = 3) * 2 + (owed = 0);");
        a.hide(0, 1);
        a.hide(1, 9);
        a.lot(0);
        a.day();
        // q leaves 3 in LIFE 0, but sees 2; no debt: 1. p takes 6 of LIFE 1's 15 for himself and sees 9 of it, 4 owed: 0.
        lookTwo(a, new int[] {9, 0, 1}, new int[] {9, 4, 0});
        BorrowedLives m = town(both + "mends able + (trade = 0) * owed - 31;");
        m.lot(0);
        m.day();
        due("mends by its own SELF: 1 + 30 - 31", m.life(0, 2), 4);
        due("at least -3", m.life(1, 2), 1);
    }

    // Promise 12
    static void goingHome() {
        BorrowedLives x = town(TWO);
        due("at home", x.home(), NONE);
        x.hide(0, 1);
        x.lot(0);
        x.day();
        x.day();
        int harm = x.life(0, 5) + x.life(1, 5);
        due("harm of all", x.home(), harm);
        due("added", x.count(6), harm);
        due("homes", x.count(5), 1);
        due("nothing hidden", x.life(0, 3), 0);
        due("himself", x.life(0, 4), 0);
        due("no harm at home", x.life(0, 5), 0);
        due("no good at home", x.life(1, 6), 0);
        due("no days at home", x.count(4), 0);
        due("once", x.home(), NONE);
        x.lot(0);
        due("no day, no harm", x.home(), 0);
        due("homes", x.count(5), 2);
        due("added", x.count(6), harm);
    }

    // Promise 13
    static void undoing() {
        BorrowedLives x = town(TWO);
        due("nothing", x.undo(), false);
        x.hide(0, 7);
        x.hide(0, 9);
        x.hide(0, 1000);
        x.lot(0);
        x.day();
        x.tale(0, 1, 1);
        x.home();
        due("five", x.count(11), 5);
        due("home", x.undo(), true);
        due("away", x.count(3), 1);
        due("harm is as ahead", x.count(6), 0);
        due("homes are as ahead", x.count(5), 0);
        due("tales stay", x.count(10), 1);
        due("day", x.undo(), true);
        due("purse", x.life(0, 0), 30);
        due("no day", x.count(4), 0);
        due("lot", x.undo(), true);
        due("at home", x.life(0, 4), 0);
        due("hidden", x.life(0, 3), 9);
        due("hide", x.undo(), true);
        due("hidden", x.life(0, 3), 7);
        due("hide", x.undo(), true);
        due("not hidden", x.life(0, 3), 0);
        due("nothing more", x.undo(), false);
        for (int i = 1; i <= 20; i++) {
            x.hide(0, i);
        }
        due("the last 16", x.count(11), 16);
        due("can't be, and leaves them", x.hide(0, 1000), false);
        due("can't be, and leaves them", x.day(), NONE);
        for (int i = 0; i < 16; i++) {
            due("undo", x.undo(), true);
        }
        due("no more", x.undo(), false);
        due("the fifth was undone last", x.life(0, 3), 4);
        BorrowedLives z = town(THREE);
        z.hide(0, 100);
        int hiddenHarm = z.least(NONE);
        int mean = z.prepare(1, 1);
        z.undo();
        due("as ahead of it", z.least(NONE), 46);
        due("otherwise", hiddenHarm == 46, false);
        due("asked anew", z.prepare(1, 1) == mean, false);
        BorrowedLives y = town(FOUR);
        y.lot(0);
        y.swap(0, 3);
        y.undo();
        due("swap undone", y.life(1, 4), 0);
        due("swap undone", y.life(2, 4), 3);
    }

    // Promise 14
    static void judging() {
        BorrowedLives x = town(TWO);
        due("none", x.judged(0), NONE);
        due("no homes", x.judged(1), 0);
        due("no harm", x.judged(2), 0);
        due("others", x.judged(3), -2);
        due("others", x.judged(-1), -2);
        year(x, "lot 0; day; home; lot 0; day; home;");
        due("all can", x.judged(0), NONE);
        due("homes", x.judged(1), 2);
        int first = 8;
        // The second time from 33 4 4, 14 0 6: y's 4, then x's 10, all to LIFE 0: 39 4 3, 8 0 7: 5 + 6.
        due("harm", x.judged(2), first + 11);
        x.lot(0);
        x.day();
        x.home();
        due("from the begin", x.judged(2), first + 11);
        due("nothing is done", x.count(6), first);
        due("nothing is done", x.count(11), 3);
        year(x, "hide x 30; hide x 31; day; home; lot 3; lot 3; hide x 0; swap x y; " + "day;".repeat(8) + "home;");
        due("the first that can't", x.judged(0), 1);
        due("homes", x.judged(1), 1);
        year(x, "lot 3;" + "day;".repeat(7) + "home;day;");
        due("behind all", x.judged(0), 9);
    }

    // Promises 15, 16
    static void lotsAndOdds() {
        int[] due = {0, 0, 1, 2, 9, 44, 265};
        String text = "";
        for (int n = 1; n <= 6; n++) {
            text += alike(String.valueOf((char) ('a' + n)), n);
            due("lots of " + n, town(text).lots(), due[n]);
        }
        BorrowedLives x = town(SIX);
        due("a fifth each", x.odds(0, 1), 200000);
        due("himself", x.odds(3, 3), 0);
        due("others", x.odds(6, 0), NONE);
        due("others", x.odds(0, 6), NONE);
        due("others", x.odds(-1, 0), NONE);
        due("others", x.odds(0, -1), NONE);
        due("no lot", town(alike("a", 1)).odds(0, 0), NONE);
        due("cut", town(FOUR).odds(0, 1), 333333);
        BorrowedLives y = town(FOUR + "bar a b;bar a c;");
        due("bars", y.lots(), 3);
        due("sure", y.odds(0, 3), 1000000);
        due("cut", y.odds(1, 0), 333333);
        y.lot(7);
        due("away, too", y.lots(), 3);
    }

    // Promise 17
    static void leastHarm() {
        BorrowedLives x = town(THREE);
        due("harm", x.least(NONE), 46);
        due("self", x.least(0), 1);
        due("self", x.least(1), 2);
        due("self", x.least(2), 0);
        due("others", x.least(3), -2);
        due("others", x.least(-2), -2);
        due("no lot", town(TWO + "bar x y;").least(NONE), -2);
        BorrowedLives y = town(FOUR + "spends 0;mends 0;");
        due("all are equal", y.least(NONE), 0);
        int[] first = {1, 0, 3, 2};
        for (int i = 0; i < 4; i++) {
            due("the first", y.least(i), first[i]);
        }
        BorrowedLives z = town("person a plain skill 9 purse 90 debt 0 home 5;" + alike("b", 0) + alike("c", 0) + "spends 0;mends 0-(able=9)*neat;");
        due("who spoils, spoils 3, then 2: any home", z.least(NONE), 25);
        BorrowedLives n = town(TWO);
        n.lot(0);
        n.day();
        due("from now", n.least(NONE), weekHarm(33, 4, 4, 14, 0, 6));
        due("nobody came home", n.count(3), 1);
    }

    /** HARM of a week of TWO from here, by hand's rule: y spends 4 of LIFE 0 and lets it go, x 10 of LIFE 1 and mends. */
    static int weekHarm(int purse0, int debt0, int home0, int purse1, int debt1, int home1) {
        int p = purse0;
        int q = purse1;
        int d = debt1;
        int h = home0;
        int k = home1;
        for (int i = 0; i < 7; i++) {
            int spent = Math.min(4, p);
            p -= spent;
            q += spent;
            h = Math.max(0, h - 1);
            spent = Math.min(10, q);
            q -= spent;
            int paid = Math.min(spent, d);
            d -= paid;
            p += spent - paid;
            k = Math.min(9, k + 1);
        }
        return Math.max(0, purse0 - debt0 - (p - debt0)) + 5 * (home0 - h) + Math.max(0, purse1 - debt1 - (q - d));
    }

    // Promise 18
    static void preparing() {
        BorrowedLives x = town(THREE);
        due("how much", x.prepare(0, 0), 100);
        due("on the mean", x.prepare(0, 1), 26000);
        due("other what", x.prepare(0, 2), NONE);
        due("other what", x.prepare(0, -1), NONE);
        due("others", x.prepare(3, 0), NONE);
        due("others", x.prepare(-1, 0), NONE);
        due("no lot", town(alike("a", 100)).prepare(0, 0), NONE);
        due("nothing is hidden by it", x.life(0, 3), 0);
        due("25 at most of 49", town("person a plain skill 0 purse 49 debt 0 home 0;" + alike("b", 0)
                + "spends able * 999;mends 0;sign 999;").prepare(0, 0), 25);
        BorrowedLives none = town("person a plain skill 0 purse 60 debt 0 home 0;" + alike("b", 0) + "spends 0;mends 0;");
        none.hide(0, 50);
        due("the least that does", none.prepare(0, 0), 0);
        due("no harm", none.prepare(0, 1), 0);
        BorrowedLives t = town("person a plain skill 3 purse 70 debt 0 home 0;person t thief skill 0 purse 0 debt 0 home 0;spends able = 0;mends 0;");
        due("a thief finds all", t.prepare(0, 0), 0);
        due("1 a day", t.prepare(0, 1), 7000);
        BorrowedLives c = town("person a plain skill 0 purse 10 debt 0 home 0;" + alike("b", 0) + alike("c", 0)
                + "spends (money = 10) * able;mends 0;");
        due("cut", c.prepare(0, 1), c.lots() == 2 ? 3000 : NONE);
    }

    // Promise 19
    static void deeds() {
        BorrowedLives x = town(THREE);
        due("mends", x.deeds(0, 1, 1, NONE), 40 + 30);
        due("mends", x.deeds(0, 1, 1, 0), 2);
        due("saves and pays, by 6 and 10", x.deeds(1, 2, 2, NONE), 6 - 2 * 20 + 90);
        due("saves first", x.deeds(1, 2, 2, 0), 0);
        due("then pays", x.deeds(1, 2, 2, 1), 1);
        due("own life: 2 saved, 1 paid, 4 mended", x.deeds(0, 0, 7, NONE), 100 + 6 - 10 + 90);
        due("saved first", x.deeds(0, 0, 7, 0), 0);
        due("2 at a time above 4", x.deeds(1, 1, 1, NONE), 40 + 40);
        due("2 at a time by 5", x.deeds(2, 1, 1, NONE), 40 + 40);
        due("1 at a time by 4", town("person a plain skill 4 purse 0 debt 0 home 2;").deeds(0, 0, 1, NONE), 30);
        due("9 at most", town("person a plain skill 5 purse 0 debt 0 home 8;").deeds(0, 0, 1, NONE), 90);
        refused("what 1 of 1 day", () -> x.deeds(0, 1, 1, 1));
        refused("what -2", () -> x.deeds(0, 1, 1, -2));
        refused("0 days", () -> x.deeds(0, 1, 0, NONE));
        refused("8 days", () -> x.deeds(0, 1, 8, NONE));
        refused("person 3", () -> x.deeds(3, 1, 1, NONE));
        refused("life 3", () -> x.deeds(0, 3, 1, NONE));
        refused("person -1", () -> x.deeds(-1, 1, 1, NONE));
        refused("life -1", () -> x.deeds(0, -1, 1, NONE));
        BorrowedLives g = town("person a plain skill 4 purse 5 debt 3 home 8;good 0 - owed - neat;");
        due("pays what there is, of equal rows the first", g.deeds(0, 0, 3, NONE), -8);
        due("save", g.deeds(0, 0, 3, 0), 0);
        due("save", g.deeds(0, 0, 3, 1), 0);
        due("pay", g.deeds(0, 0, 3, 2), 1);
        BorrowedLives h = town("person a plain skill 4 purse 5 debt 30 home 8;good money;");
        h.hide(0, 5);
        due("what is hidden is no money", h.deeds(0, 0, 2, NONE), 8);
        BorrowedLives w = town("person a plain skill 1 purse 5 debt 30 home 8;good neat * 9999 * 9999 * 2 + money;");
        due("ints wrap", w.deeds(0, 0, 1, NONE), Math.max(8 * 9999 * 9999 * 2 + 6, 9 * 9999 * 9999 * 2 + 5));
    }

    // Promise 20
    static void pairs() {
        String four = "person a plain skill 0 purse 1 debt 0 home 0;person b plain skill 1 purse 2 debt 0 home 0;"
                + "person c miser skill 2 purse 3 debt 0 home 0;person d thief skill 3 purse 4 debt 0 home 0;";
        BorrowedLives x = town(four + "wish not (able + 1 = money);");
        due("any with any", x.pairs(NONE), 2);
        int[] first = {1, 0, 3, 2};
        for (int i = 0; i < 4; i++) {
            due("the first row", x.pairs(i), first[i]);
        }
        due("others", x.pairs(4), -2);
        due("others", x.pairs(-2), -2);
        BorrowedLives y = town(four + "wish (able = 0) * (money = 3) + (able = 2) * (money = 1) + (able = 1) * (money = 4);");
        due("a and c; b would, d would not", y.pairs(NONE), 1);
        due("a with c", y.pairs(0), 2);
        due("c with a", y.pairs(2), 0);
        due("b with none", y.pairs(1), NONE);
        // A chain b-a, a-d, d-c: two pairs are more than one, though a and b stand first.
        BorrowedLives z = town(four + "wish (able=1)*(money=1)+(able=0)*((money=2)+(money=4))+(able=3)*((money=1)+(money=3))+(able=2)*(money=4);");
        due("the most", z.pairs(NONE), 2);
        due("a with b", z.pairs(0), 1);
        due("c with d", z.pairs(2), 3);
        BorrowedLives c = town(four + "wish (able=0)*(money=3)+(able=2)*(money=1)+(able=1)*(money=4)+(able=3)*(money=2);");
        due("crossed", c.pairs(NONE), 2);
        due("a with c", c.pairs(0), 2);
        due("b with d", c.pairs(1), 3);
        due("c with a", c.pairs(2), 0);
        due("d with b", c.pairs(3), 1);
        feed(c, four + "wish 0;");
        c.town();
        due("no more", c.pairs(NONE), 0);
        BorrowedLives s = town(four + "wish 5;");
        due("as well is not rather", s.pairs(NONE), 0);
        due("nobody", s.pairs(3), NONE);
        BorrowedLives k = town("person a thief skill 0 purse 9 debt 0 home 0;person b plain skill 0 purse 5 debt 0 home 0;"
                + "wish (trade = 2) * money + (trade = 0) * (20 - money);");
        k.hide(0, 9);
        due("of a wish a thief finds nothing", k.pairs(NONE), 1);
        BorrowedLives u = town("person a plain skill 0 purse 1 debt 0 home 1;person b plain skill 0 purse 0 debt 0 home 3;");
        due("untold it is the same of all: never both would", u.pairs(NONE), 0);
    }

    // Promises 21 to 24
    static void tales() {
        BorrowedLives x = town(THREE);
        due("how", x.how(), 2);
        due("who", x.who(0), NONE);
        due("ask", x.ask(), 1);
        due("told", x.tale(0, 1, 94), true);
        due("how", x.how(), 1);
        due("who", x.who(0), 1);
        due("who", x.who(2), 0);
        due("others", x.who(3), NONE);
        due("others", x.who(-1), NONE);
        due("none parts one", x.ask(), NONE);
        due("life 3", x.tale(3, 1, 5), false);
        due("life -1", x.tale(-1, 1, 5), false);
        due("day 0", x.tale(0, 0, 5), false);
        due("day 8", x.tale(0, 8, 5), false);
        due("purse -1", x.tale(0, 1, -1), false);
        due("purse 10000", x.tale(0, 1, 10000), false);
        due("purse 9999", x.tale(0, 1, 9999), true);
        due("none fits", x.how(), 0);
        due("none fits", x.who(0), NONE);
        due("none fits", x.ask(), NONE);
        for (int i = 0; i < 6; i++) {
            due("eight", x.tale(0, 1, 9999), true);
        }
        due("nine", x.tale(0, 1, 9999), false);
        due("eight", x.count(10), 8);
        BorrowedLives y = town(FOUR + "spends 0;");
        due("nothing parts them", y.ask(), NONE);
        due("nine", y.how(), 9);
        y.tale(2, 7, 50);
        due("all fit", y.how(), 9);
        BorrowedLives z = town(alike("a", 50) + "person b plain skill 0 purse 50 debt 0 home 0;" + alike("c", 50) + "spends able = 0;mends 0;bar a b;");
        due("one lot", z.lots(), 1);
        due("it is known", z.who(1), 2);
        // Day by day LIFE 0 or 2 loses a coin by b; nobody can tell from LIFE 0 on any day: b leads 0 or 2 of the two LOTS.
        BorrowedLives p = town(alike("a", 50) + "person b plain skill 0 purse 0 debt 0 home 0;" + alike("c", 50) + "spends able = 0;mends 0;");
        due("b in 0 or in 2", p.ask(), 1);
        p.tale(0, 1, 49);
        due("b is in 0", p.who(0), 1);
        due("a is in 2", p.who(2), 0);
        // LIFE 0 holds nothing on all days; in LIFE 1 c pays the debt by the coin, and a leaves it.
        BorrowedLives q = town("person a plain skill 0 purse 0 debt 0 home 0;person b plain skill 0 purse 1 debt 1 home 0;"
                + "person c mayor skill 1 purse 0 debt 0 home 0;spends able;mends 0;");
        due("LIFE 1, DAY 1", q.ask(), 9);
        due("asked again", q.ask(), 9);
        BorrowedLives t = town(THREE);
        t.lot(0);
        t.day();
        due("from now, with this lot or not", t.how(), 2);
        due("the purse of now", t.tale(0, 1, 100), true);
    }

    // Promise 25
    static void signing() {
        BorrowedLives x = town(THREE);
        due("as told", x.law(50), 49000);
        due("nothing", x.law(0), 0);
        due("others", x.law(1000), NONE);
        due("others", x.law(-1), NONE);
        due("no lot", town(alike("a", 1)).law(5), NONE);
        due("as told still", x.count(2), 50);
        BorrowedLives z = town("person a mayor skill 9 purse 100 debt 50 home 0;person b plain skill 0 purse 0 debt 999 home 0;spends able * 10;mends 0;");
        // b spends nothing; a finds nothing in LIFE 1.
        due("no harm", z.law(999), 0);
        BorrowedLives w = town("person a plain skill 0 purse 70 debt 0 home 0;person b plain skill 1 purse 0 debt 0 home 0;spends able*999;mends 0;");
        // b sends s a day to LIFE 1, where a, of skill 0, leaves it: 7 * s, 70 at most.
        due("3 a day", w.law(3), 21000);
        due("20 a day", w.law(20), 70000);
    }

    // Promise 26
    static void resting() {
        BorrowedLives x = new BorrowedLives();
        due("for nothing none cares", x.rests(3, 0, 1, NONE), 1);
        due("0 0", x.rests(3, 0, 1, 0), 0);
        due("4 for both", x.rests(0, 4, 1, NONE), 3);
        due("1 1", x.rests(0, 4, 1, 1), 11);
        due("2 2", x.rests(0, 4, 1, 2), 22);
        due("free", x.rests(9, 0, 0, NONE), 36);
        due("free: the least first", x.rests(9, 0, 0, 7), 11);
        due("free: the last", x.rests(9, 0, 0, 35), 55);
        due("9 for both, 1", x.rests(0, 9, 1, NONE), 6);
        refused("the 36th", () -> x.rests(9, 0, 0, 36));
        refused("none such", () -> x.rests(3, 0, 1, 1));
        refused("what -2", () -> x.rests(3, 0, 1, -2));
        refused("gets 10", () -> x.rests(10, 0, 1, NONE));
        refused("both 10", () -> x.rests(0, 10, 1, NONE));
        refused("loses 10", () -> x.rests(0, 0, 10, NONE));
        refused("gets -1", () -> x.rests(-1, 0, 1, NONE));
        refused("both -1", () -> x.rests(0, -1, 1, NONE));
        refused("loses -1", () -> x.rests(0, 0, -1, NONE));
        due("2 for each squared: 9 is more than 2 and 6", x.rests(0, 9, 2, NONE), 3);
    }

    // Promise 27
    static void manyYears() {
        BorrowedLives x = town(TWO + "bar x y;");
        due("no lot: no harm", x.years(1, 20, 0), 0);
        due("no lot: no good", x.years(1, 20, 1), 0);
        due("no lot: purses", x.years(1, 20, 2), 50);
        due("what 3", x.years(1, 1, 3), NONE);
        due("what -1", x.years(1, 1, -1), NONE);
        due("seed -1", x.years(-1, 1, 0), NONE);
        due("seed 10000", x.years(10000, 1, 0), NONE);
        due("no years", x.years(1, 0, 0), NONE);
        due("21 years", x.years(1, 21, 0), NONE);
        due("seed 9999", x.years(9999, 1, 2), 50);
        // b alone can lose: 8 a day by nobody's hiding, 7 days; by 20 hidden 10 in all. 0 draws 0, then 20 of 30 are hidden.
        String one = "person a plain skill 0 purse 30 debt 0 home 0;person b plain skill 8 purse 0 debt 0 home 0;spends able;mends 0;";
        BorrowedLives y = town(one);
        due("seed 0: the first draw is 0", y.years(0, 1, 0), 10);
        due("what 10 b got are LIFE 1's", y.years(0, 1, 1), 10);
        due("purses", y.years(0, 1, 2), 30);
        due("as ahead", y.life(0, 0), 30);
        due("as ahead", y.count(5), 0);
        BorrowedLives e = town("person a plain skill 0 purse 20 debt 0 home 0;person b plain skill 8 purse 0 debt 0 home 0;spends able;mends 0;");
        due("20 of 20 hidden", e.years(0, 1, 0), 0);
        BorrowedLives f = town("person a plain skill 0 purse 19 debt 0 home 0;person b plain skill 8 purse 0 debt 0 home 0;spends able;mends 0;");
        due("20 of 19 are not", f.years(0, 1, 0), 19);
        // Seed 3: 1,163,074,432 / 65536 is 17747, of 3 that leaves 2: nothing is hidden.
        due("seed 3", y.years(3, 1, 0), 30);
        y.hide(0, 25);
        due("hidden already stays for the first year", y.years(3, 1, 0), 5);
        y.lot(0);
        y.day();
        due("comes home first: 5 went, 25 are left, nothing hidden", y.years(3, 1, 0), 25);
        due("is away as ahead", y.count(3), 1);
        due("hidden as ahead", y.life(0, 3), 25);
    }

    // Promise 28
    static void marks() {
        BorrowedLives x = town(THREE);
        due("nothing on it", x.mark(0, true), false);
        due("none such", x.mark(-1, false), false);
        due("none such", x.mark(4, false), false);
        due("none such", x.mark(4, true), false);
        x.hide(0, 9);
        x.lot(0);
        x.day();
        x.tale(1, 1, 1);
        int purse = x.life(1, 0);
        due("laid", x.mark(3, false), true);
        due("undo stays", x.count(11), 3);
        x.day();
        x.home();
        x.tale(1, 1, 2);
        due("laid", x.mark(0, false), true);
        due("back", x.mark(3, true), true);
        due("away", x.count(3), 1);
        due("day", x.count(4), 1);
        due("homes", x.count(5), 0);
        due("harm", x.count(6), 0);
        due("tales", x.count(10), 1);
        due("nothing can be undone", x.count(11), 0);
        due("nothing can be undone", x.undo(), false);
        due("purse", x.life(1, 0), purse);
        due("hidden", x.life(0, 3), 9);
        due("self", x.life(0, 4), 1);
        due("harm since the lot", x.life(1, 5), 4);
        due("day goes on", x.day(), 2);
        due("back again", x.mark(0, true), true);
        due("homes", x.count(5), 1);
        due("tales", x.count(10), 2);
        due("still there", x.mark(3, true), true);
        due("not laid", x.mark(1, true), false);
        BorrowedLives y = town(THREE);
        y.mark(1, false);
        y.hide(0, 100);
        int harm = y.least(NONE);
        y.prepare(1, 0);
        y.mark(1, true);
        due("foreseen anew", y.least(NONE), 46);
        due("it was otherwise", harm == 46, false);
    }

    // Promise 29
    static void counts() {
        BorrowedLives x = town(THREE + "bar ann bob;sign 7;");
        year(x, "day;home;");
        x.hide(0, 3);
        x.lot(0);
        x.day();
        x.home();
        x.lot(0);
        x.day();
        x.day();
        x.tale(0, 1, 1);
        feed(x, "abc");
        int[] due = {3, 1, 7, 1, 2, 1, x.count(6), x.life(0, 0) + x.life(1, 0) + x.life(2, 0),
            x.life(0, 1) + x.life(1, 1) + x.life(2, 1), 2, 1, 7, 3};
        for (int i = 0; i < due.length; i++) {
            due("count " + i, x.count(i), due[i]);
        }
        due("debts", x.count(8), 40);
        due("other", x.count(13), NONE);
        due("other", x.count(-1), NONE);
    }
}
