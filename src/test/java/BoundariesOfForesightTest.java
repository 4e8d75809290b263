/**
 * Each sentence on what is foreseen, guessed, marked and counted that names a boundary, on both of its sides: promises 15
 * to 29 with the Terms that they use (==== 2., ==== 3.). Each test's first comment tells the sentence.
 */
public final class BoundariesOfForesightTest extends Check {
    static final String MAX = BoundariesOfReadingTest.MAX;
    static final int[] INTS = {Integer.MIN_VALUE, Integer.MAX_VALUE};
    /** Only of LIFE 0, which owes 7, anything is spent: so many coins as who leads it is able. */
    static final String ONLY_OF_LIFE_0 = "spends (owed=7)*able;mends 0;";

    public static void main(String[] args) {
        runAll(BoundariesOfForesightTest.class, 15, 29);
    }

    static String poor(String name, int skill) {
        return person(name, "plain", skill, 0, 0, 5);
    }

    static String mayor(String name, int skill, int purse) {
        return person(name, "mayor", skill, purse, 9, 5);
    }

    /** b or c lead LIFE 0, by the one LOT or the other, and spend so much of its purse each day. */
    static BorrowedLives ofThree(int purse, int skillOfB, int skillOfC) {
        return town(person("a", "plain", 0, purse, 7, 5) + poor("b", skillOfB) + poor("c", skillOfC) + ONLY_OF_LIFE_0);
    }

    /** b leads LIFE 0 and spends all that is not hidden of it; a leaves LIFE 1 alone. */
    static BorrowedLives spender(int purse) {
        return town(person("a", "plain", 0, purse, 0, 5) + poor("b", 1) + "spends able*999;mends 0;sign 999;");
    }

    /** Those can be others nowhere: nobody at all, one alone, two of whom one is barred. */
    static BorrowedLives[] withoutLots() {
        return new BorrowedLives[] {new BorrowedLives(), town(alike("a", 50)), town(TWO + "bar x y;")};
    }

    // Promise 15: "How many LOTS there are": of nobody, of one (nobody his own), of two to six.
    static void promise15LotsOfNobodyToSix() {
        int[] lots = {0, 0, 1, 2, 9, 44, 265};
        String text = "";
        for (int people = 0; people <= 6; people++) {
            due("lots of " + people, town(text).lots(), lots[people]);
            text += alike(String.valueOf((char) ('a' + people)), 5);
        }
        due("a new object", new BorrowedLives().lots(), 0);
    }

    // A LOT: "nobody one he is barred from": a bar takes some, enough bars take all.
    static void promise15BarsTakeLots() {
        due("one bar of two", town(TWO + "bar x y;").lots(), 0);
        due("one bar of three", town(THREE + "bar ann bob;").lots(), 1);
        due("two of one lot", town(THREE + "bar ann bob;bar bob cid;").lots(), 1);
        due("one of each lot", town(THREE + "bar ann bob;bar ann cid;").lots(), 0);
        String bars = "bar b a;bar c a;bar d a;bar e a;";
        due("f alone may be a", town(SIX + bars).lots(), 53);
        due("nobody may be a", town(SIX + bars + "bar f a;").lots(), 0);
    }

    // Promise 16: "ODDS; NONE: others": the first and the last of both, and those beyond.
    static void promise16OthersAreNone() {
        BorrowedLives x = town(SIX);
        due("the first and the last", x.odds(0, 5), 200000);
        due("the last and the first", x.odds(5, 0), 200000);
        for (int life = 0; life < 6; life++) {
            due("himself is none of these", x.odds(life, life), 0);
            due("beyond the last", x.odds(6, life), NONE);
            due("beyond the last", x.odds(life, 6), NONE);
            due("ahead of the first", x.odds(-1, life), NONE);
            due("ahead of the first", x.odds(life, -1), NONE);
        }
        due("a third of two", town(TWO).odds(0, 2), NONE);
    }

    // Promise 16: "NONE: ... there is no LOT".
    static void promise16NoLot() {
        for (BorrowedLives x : withoutLots()) {
            due("no lot", x.odds(0, 0), NONE);
            due("no lot", x.odds(0, 1), NONE);
        }
        due("one lot", town(TWO).odds(0, 1), 1000000);
    }

    // ODDS: "of all LOTS, in millionths, cut": 0, all, and what does not come out even.
    static void promise16OddsAreCut() {
        due("1 of 3", town(FOUR).odds(0, 1), 333333);
        // a leads d's in all; c and d and c lead b's: b c d, c d b, d c b are the selves of LIVES 0 to 2.
        BorrowedLives x = town(FOUR + "bar a b;bar a c;");
        due("3 lots", x.lots(), 3);
        due("all", x.odds(0, 3), 1000000);
        due("2 of 3, cut", x.odds(2, 1), 666666);
        due("1 of 3", x.odds(3, 1), 333333);
        due("none", x.odds(1, 1), 0);
        due("none, barred", x.odds(0, 2), 0);
        due("half", town(THREE).odds(0, 1), 500000);
    }

    // Promise 17: "life NONE: HARM; else its SELF; -2: others".
    static void promise17OthersAreMinus2() {
        BorrowedLives x = town(SIX);
        due("the first", x.least(0), 1);
        due("the last", x.least(5), 4);
        due("beyond the last", x.least(6), OTHERS);
        due("ahead of NONE", x.least(-2), OTHERS);
        due("the least int", x.least(Integer.MIN_VALUE), OTHERS);
        due("NONE", x.least(NONE) >= 0, true);
        due("a third of two", town(TWO).least(2), OTHERS);
        due("the second of two", town(TWO).least(1), 0);
    }

    // Promise 17: "-2: ... there is no LOT".
    static void promise17NoLot() {
        for (BorrowedLives x : withoutLots()) {
            due("harm", x.least(NONE), OTHERS);
            due("self", x.least(0), OTHERS);
        }
    }

    // LEAST: "the LOT by which the HARM of all is the least; of equal ones the first": by one more, by as much, by one less.
    static void promise17OfEqualOnesTheFirst() {
        BorrowedLives less = ofThree(30, 1, 2);
        due("the first is less", less.least(0), 1);
        due("by 7", less.least(NONE), 7);
        BorrowedLives equal = ofThree(30, 2, 2);
        due("equal: the first", equal.least(0), 1);
        due("by 14", equal.least(NONE), 14);
        BorrowedLives more = ofThree(30, 2, 1);
        due("the second is less", more.least(0), 2);
        due("by 7", more.least(NONE), 7);
        BorrowedLives all = town(SIX + "spends 0;mends 0;");
        due("no harm by any", all.least(NONE), 0);
        due("the first", all.least(0), 1);
        due("the first", all.least(5), 4);
    }

    // LEAST: the last LOT of all can be the one.
    static void promise17TheLastLotOfAll() {
        String text = "";
        for (int i = 0; i < 6; i++) {
            text += person(String.valueOf((char) ('a' + i)), "plain", i, 0, 10 + i, 9);
        }
        BorrowedLives x = town(text + "spends 0;mends 0-not(able+owed=15);");
        due("no harm", x.least(NONE), 0);
        for (int life = 0; life < 6; life++) {
            due("the last row", x.least(life), 5 - life);
        }
    }

    // ==== 3.: "7 DAYS went by it": what comes on the seventh counts, what would come on an eighth does not.
    static void promise17SevenDaysGoBy() {
        String text = person("a", "plain", 0, 90, 0, 0) + person("b", "plain", 1, 0, 0, 0) + "mends 1;spends able*5*(neat=%d);";
        due("on the first", town(text.replace("%d", "0")).least(NONE), 5);
        due("on the seventh", town(text.replace("%d", "6")).least(NONE), 5);
        due("on an eighth", town(text.replace("%d", "7")).least(NONE), 0);
    }

    // ==== 3.: "as if a LOT were drawn now ..., nobody home ahead of that": HARM of now is none, what is hidden stays.
    static void promise17FromHowItIsNow() {
        BorrowedLives x = spender(30);
        due("all", x.least(NONE), 30);
        x.hide(0, 12);
        due("but what is hidden", x.least(NONE), 18);
        x.lot(0);
        due("away, still hidden", x.least(NONE), 18);
        x.day();
        due("harm so far is not of it", x.least(NONE), 0);
        leaves("nobody came home", x, () -> x.least(NONE), 0);
        x.home();
        due("at home nothing is hidden", x.least(NONE), 12);
    }

    // Promise 18: "what 0: how much, 1: HARM on the mean; NONE: others, there is no LOT".
    static void promise18OthersAreNone() {
        BorrowedLives x = town(THREE);
        due("the first", x.prepare(0, 0), 100);
        due("the last", x.prepare(2, 0) >= 0, true);
        due("beyond the last", x.prepare(3, 0), NONE);
        due("ahead of the first", x.prepare(-1, 0), NONE);
        due("what -1", x.prepare(0, -1), NONE);
        due("what 2", x.prepare(0, 2), NONE);
        for (int what : INTS) {
            due("what", x.prepare(0, what), NONE);
            due("life", x.prepare(what, 0), NONE);
        }
        for (BorrowedLives none : withoutLots()) {
            due("no lot", none.prepare(0, 0), NONE);
            due("no lot", none.prepare(0, 1), NONE);
        }
    }

    // PREPARE: "hide 0, 25, 50 .. of its purse (no more than it holds)".
    static void promise18NoMoreThanItHolds() {
        int[][] cases = {{0, 0}, {1, 0}, {24, 0}, {25, 25}, {26, 25}, {49, 25}, {50, 50}, {51, 50}, {74, 50}, {75, 75}, {998, 975}, {999, 975}};
        for (int[] c : cases) {
            BorrowedLives x = spender(c[0]);
            due("hides of " + c[0], x.prepare(0, 0), c[1]);
            due("loses the rest", x.prepare(0, 1), 1000 * (c[0] - c[1]));
            due("as ahead", x.life(0, 3), 0);
        }
    }

    // PREPARE: "(no more than it holds)": that alone bounds it, above the 999 coins of a HIDE, too.
    static void promise18AsMuchAsItHolds() {
        BorrowedLives x = town(person("a", "plain", 0, 999, 0, 5) + person("b", "plain", 1, 500, 0, 5)
                + "spends (able=1)*(900<money)*999+(able=0)*(400<money)*30;mends 0;sign 999;");
        x.lot(0);
        x.day();
        x.home();
        due("999 and 500 less 30", x.life(1, 0), 1469);
        due("until 400 or less can be seen", x.prepare(1, 0), 1075);
        due("no harm then", x.prepare(1, 1), 0);
    }

    // PREPARE: "in place of what is hidden of it": 0 hides nothing of it; what others hide stays.
    static void promise18InPlaceOfWhatIsHidden() {
        BorrowedLives x = spender(49);
        x.hide(0, 40);
        due("25", x.prepare(0, 0), 25);
        due("loses 24", x.prepare(0, 1), 24000);
        due("hidden as ahead", x.life(0, 3), 40);
        BorrowedLives y = spender(10);
        y.hide(0, 10);
        due("0 of 10", y.prepare(0, 0), 0);
        due("loses all", y.prepare(0, 1), 10000);
    }

    // PREPARE: "by which its own HARM is the least ...; of equal ones the least".
    static void promise18OfEqualOnesTheLeast() {
        String text = person("a", "plain", 0, 60, 0, 5) + poor("b", 1) + "mends 0;spends ";
        BorrowedLives none = town(text + "0;");
        due("nothing helps, nothing harms", none.prepare(0, 0), 0);
        BorrowedLives some = town(text + "able*10*(49<money);");
        due("25 do as well as 50", some.prepare(0, 0), 25);
        due("no harm", some.prepare(0, 1), 0);
        BorrowedLives most = town(text + "able*10*(34<money);");
        due("60 less 25 are 35: 50", most.prepare(0, 0), 50);
        BorrowedLives thief = town(person("a", "plain", 0, 60, 0, 5) + person("b", "thief", 1, 0, 0, 5) + "spends able;mends 0;");
        due("a thief finds all", thief.prepare(0, 0), 0);
        due("7", thief.prepare(0, 1), 7000);
    }

    // ==== 3.: "All from how LIVES are now": asked again behind each deed and each undone one.
    static void promise18FromHowItIsNow() {
        BorrowedLives x = spender(30);
        due("25 of 30", x.prepare(0, 0), 25);
        due("5 are lost", x.prepare(0, 1), 5000);
        x.mark(0, false);
        x.hide(0, 10);
        x.lot(0);
        due("no day yet", x.prepare(0, 0), 25);
        x.day();
        due("10 are left", x.prepare(0, 0), 0);
        due("they are lost", x.prepare(0, 1), 10000);
        x.undo();
        due("25 of 30", x.prepare(0, 0), 25);
        x.day();
        due("10 are left", x.prepare(0, 1), 10000);
        x.mark(0, true);
        due("5 of 30 are lost", x.prepare(0, 1), 5000);
        feed(x, person("a", "plain", 0, 26, 0, 5) + poor("b", 1) + "spends able*999;mends 0;sign 999;");
        x.town();
        due("1 of 26 is lost", x.prepare(0, 1), 1000);
    }

    // PREPARE: "its own HARM": not that of the others.
    static void promise18ItsOwnHarm() {
        BorrowedLives x = town(person("a", "plain", 1, 50, 0, 5) + person("b", "plain", 0, 50, 0, 5) + "spends (able=1)*5;mends 0;");
        due("LIFE 0 is harmed by none", x.prepare(0, 1), 0);
        due("LIFE 1 by a", x.prepare(1, 0), 50);
        due("not then", x.prepare(1, 1), 0);
    }

    // PREPARE: "by all LOTS together ...; HARM on the mean, in thousandths, cut".
    static void promise18MeansAreCut() {
        due("1 by one of two", ofThree(1, 1, 0).prepare(0, 1), 500);
        due("1 by the other one of two", ofThree(1, 0, 1).prepare(0, 1), 500);
        due("1 by both", ofThree(1, 1, 1).prepare(0, 1), 1000);
        String text = person("a", "plain", 0, 1, 7, 5) + poor("b", 1);
        BorrowedLives third = town(text + poor("c", 0) + poor("d", 0) + ONLY_OF_LIFE_0);
        due("3 of 9", third.prepare(0, 1), 333);
        BorrowedLives thirds = town(text + poor("c", 1) + poor("d", 0) + ONLY_OF_LIFE_0);
        due("6 of 9, cut", thirds.prepare(0, 1), 666);
    }

    // Promise 19: "what NONE: good; i: the i-th ...; NoSuchElementException: others".
    static void promise19OthersThrow() {
        BorrowedLives x = town(SIX);
        for (int days = 1; days <= 7; days++) {
            int d = days;
            refused("what -2", () -> x.deeds(0, 1, d, -2));
            due("good", x.deeds(0, 1, d, NONE), 100 + 10 * Math.min(4, d) + 3 * Math.max(0, d - 4));
            due("the first", x.deeds(0, 1, d, 0), d < 5 ? 2 : 0);
            due("the last", x.deeds(0, 1, d, d - 1), 2);
            refused("one too far", () -> x.deeds(0, 1, d, d));
        }
        for (int beyond : new int[] {-1, 6, INTS[0], INTS[1]}) {
            refused("person " + beyond, () -> x.deeds(beyond, 1, 1, NONE));
            refused("life " + beyond, () -> x.deeds(0, beyond, 1, NONE));
        }
        due("the last", x.deeds(5, 5, 1, 0), 2);
        due("the first", x.deeds(0, 0, 1, 0), 2);
        BorrowedLives two = town(TWO);
        refused("a third person of two", () -> two.deeds(2, 0, 1, NONE));
        refused("a third life of two", () -> two.deeds(0, 2, 1, NONE));
        refused("nobody", () -> new BorrowedLives().deeds(0, 0, 1, NONE));
        for (int what : INTS) {
            refused("what " + what, () -> x.deeds(0, 1, 1, what));
        }
    }

    // DEEDS: "for so many days (1 to 7)".
    static void promise19DaysAre1To7() {
        BorrowedLives x = town(SIX);
        for (int days : new int[] {-1, 0, 8, INTS[0], INTS[1]}) {
            refused(days + " days", () -> x.deeds(0, 1, days, NONE));
            refused(days + " days", () -> x.deeds(0, 1, days, 0));
        }
        due("1 day", x.deeds(0, 1, 1, NONE), 110);
        due("7 days", x.deeds(0, 1, 7, NONE), 149);
    }

    // DEEDS: "SAVES (its purse is more by his skill, ...)": by 0 and by 9.
    static void promise19SavesBySkill() {
        due("0", town(person("a", "plain", 0, 5, 0, 9) + "good money;").deeds(0, 0, 7, NONE), 5);
        due("9", town(person("a", "plain", 9, 5, 0, 9) + "good money;").deeds(0, 0, 7, NONE), 68);
    }

    // DEEDS: "(...; 9,999 at most)": the purse that holds all there is, 5,994, and 7 times 9 more stays far below.
    static void promise19NothingIsLostBelow9999() {
        BorrowedLives x = BoundariesOfLivingTest.rich();
        due("all of six purses", x.life(5, 0), 5994);
        due("7 saved by 1, mended home 5", x.deeds(5, 5, 1, NONE), 5994 + 60);
        BorrowedLives y = town(person("a", "plain", 9, 999, 0, 9));
        due("999 and 63", y.deeds(0, 0, 7, NONE), 999 + 63 + 90);
    }

    // DEEDS: "PAYS (its debt is less by 10, by what there is of it, by the purse, what is least; the purse as much less)".
    static void promise19PaysTheLeastOfThree() {
        int[][] cases = {{50, 30, 10}, {50, 11, 10}, {50, 10, 10}, {50, 9, 9}, {50, 1, 1}, {50, 0, 0}, {11, 30, 10}, {10, 30, 10},
            {9, 30, 9}, {1, 30, 1}, {0, 30, 0}, {9, 9, 9}, {8, 9, 8}, {9, 8, 8}};
        for (int[] c : cases) {
            BorrowedLives x = town(person("a", "plain", 0, c[0], c[1], 9) + "good money-owed*1000;");
            int paid = c[2];
            due("of " + c[0] + " for " + c[1], x.deeds(0, 0, 1, NONE), c[0] - paid - 1000 * (c[1] - paid));
            due("pays if it can", x.deeds(0, 0, 1, 0), paid > 0 ? 1 : 0);
        }
        BorrowedLives hidden = town(person("a", "plain", 0, 10, 10, 9) + "good money-owed*1000;");
        hidden.hide(0, 10);
        due("what is hidden pays, too", hidden.deeds(0, 0, 1, NONE), 0);
    }

    // DEEDS: "MENDS (its home is 1 better, 2 if his skill is above 4; 9 at most)".
    static void promise19MendsBySkill() {
        int[][] cases = {{0, 3, 4}, {4, 3, 4}, {5, 3, 5}, {9, 3, 5}, {4, 7, 8}, {4, 8, 9}, {4, 9, 9}, {5, 6, 8}, {5, 7, 9}, {5, 8, 9}, {5, 9, 9}, {0, 0, 1}};
        for (int[] c : cases) {
            BorrowedLives x = town(person("a", "plain", c[0], 0, 0, c[1]) + "good neat;");
            due("skill " + c[0] + " home " + c[1], x.deeds(0, 0, 1, NONE), c[2]);
            due("mends if it can", x.deeds(0, 0, 1, 0), c[2] > c[1] ? 2 : 0);
        }
    }

    // DEEDS: "by which the E of good is the most at last (all ints)": the least int, ints below 0, the greatest one.
    static void promise19AllInts() {
        BorrowedLives least = town(alike("a", 5) + "good " + MAX + "+1;");
        due("the least int by all rows", least.deeds(0, 0, 7, NONE), Integer.MIN_VALUE);
        due("the first row", least.deeds(0, 0, 7, 6), 0);
        BorrowedLives more = town(person("a", "plain", 0, 0, 0, 5) + "good " + MAX + "+1+(neat=6);");
        due("one more", more.deeds(0, 0, 1, NONE), Integer.MIN_VALUE + 1);
        due("by mending", more.deeds(0, 0, 1, 0), 2);
        BorrowedLives most = town(person("a", "plain", 0, 0, 0, 5) + "good " + MAX + "+(neat=5);");
        due("what wraps is the least", most.deeds(0, 0, 1, NONE), Integer.MAX_VALUE);
        due("by mending", most.deeds(0, 0, 1, 0), 2);
        BorrowedLives below = town(person("a", "plain", 0, 0, 0, 5) + "good 0-neat-1;");
        due("below 0", below.deeds(0, 0, 7, NONE), -6);
        due("saves", below.deeds(0, 0, 7, 6), 0);
    }

    // DEEDS: "of equal ones the first row (save, pay, mend)".
    static void promise19OfEqualOnesTheFirstRow() {
        BorrowedLives all = town(person("a", "plain", 3, 20, 20, 5) + "good 0;");
        for (int day = 0; day < 7; day++) {
            due("all are equal: save", all.deeds(0, 0, 7, day), 0);
        }
        BorrowedLives last = town(person("a", "plain", 0, 0, 0, 8) + "good neat;");
        for (int day = 0; day < 7; day++) {
            due("any day would do: mend last", last.deeds(0, 0, 7, day), day == 6 ? 2 : 0);
        }
        BorrowedLives pays = town(person("a", "plain", 1, 30, 30, 5) + "good (owed<30) or (neat=6);");
        due("to pay or to mend: pay", pays.deeds(0, 0, 1, 0), 1);
        due("rather behind a save", pays.deeds(0, 0, 2, 0), 0);
        due("pay last", pays.deeds(0, 0, 2, 1), 1);
    }

    // E: "Without good: money - owed * 2 + neat * 10", money being "0 at least".
    static void promise19GoodUntold() {
        due("50, 5 and 9", town(person("a", "plain", 0, 50, 5, 9)).deeds(0, 0, 1, NONE), 45 + 90);
        due("0, 5 and 9", town(person("a", "plain", 0, 0, 5, 9)).deeds(0, 0, 1, NONE), 80);
        due("0, 999 and 0", town(person("a", "plain", 0, 0, 999, 0)).deeds(0, 0, 1, NONE), 10 - 1998);
        BorrowedLives x = town(person("a", "plain", 0, 50, 0, 9));
        x.hide(0, 50);
        due("all hidden", x.deeds(0, 0, 1, NONE), 90);
    }

    // Promise 20: "person NONE: how many; else whose (NONE: nobody's); -2: others".
    static void promise20OthersAreMinus2() {
        BorrowedLives x = town(SIX + "wish 0;");
        due("none", x.pairs(NONE), 0);
        due("the first has none", x.pairs(0), NONE);
        due("the last has none", x.pairs(5), NONE);
        due("beyond the last", x.pairs(6), OTHERS);
        due("ahead of NONE", x.pairs(-2), OTHERS);
        for (int other : INTS) {
            due("others", x.pairs(other), OTHERS);
        }
        BorrowedLives nobody = new BorrowedLives();
        due("of nobody none", nobody.pairs(NONE), 0);
        due("nobody is other", nobody.pairs(0), OTHERS);
        due("one alone", town(alike("a", 1) + "wish money;").pairs(NONE), 0);
        due("one alone", town(alike("a", 1) + "wish money;").pairs(0), NONE);
    }

    /** So many, of whom each would rather be any other one. */
    static BorrowedLives restless(int people) {
        String text = "";
        for (int i = 0; i < people; i++) {
            text += person(String.valueOf((char) ('a' + i)), "plain", i, i, 0, 5);
        }
        return town(text + "wish not (able=money);");
    }

    // PAIRS: "the most pairs; of equal ones the first row (..., none behind all)": of one to six who would all.
    static void promise20TheFirstRow() {
        int[][] rows = {{NONE}, {1, 0}, {1, 0, NONE}, {1, 0, 3, 2}, {1, 0, 3, 2, NONE}, {1, 0, 3, 2, 5, 4}};
        for (int[] row : rows) {
            BorrowedLives x = restless(row.length);
            due("pairs of " + row.length, x.pairs(NONE), row.length / 2);
            for (int person = 0; person < row.length; person++) {
                due("whose", x.pairs(person), row[person]);
            }
        }
    }

    // PAIRS: "the most pairs": two pairs rather than the first one alone.
    static void promise20TheMostPairs() {
        // a would with b or c, b and c with a, d with b alone: so a takes c, b takes d.
        String four = person("a", "plain", 0, 1, 0, 5) + person("b", "plain", 1, 2, 0, 5) + person("c", "plain", 2, 3, 0, 5)
                + person("d", "plain", 3, 4, 0, 5);
        String ab = "(able=0)*(money=2)+(able=1)*(money=1)";
        String ac = "(able=0)*(money=3)+(able=2)*(money=1)";
        String bd = "(able=1)*(money=4)+(able=3)*(money=2)";
        BorrowedLives x = town(four + "wish " + ab + "+" + ac + "+" + bd + ";");
        due("two", x.pairs(NONE), 2);
        due("a", x.pairs(0), 2);
        due("b", x.pairs(1), 3);
        BorrowedLives y = town(four + "wish " + ab + "+" + ac + ";");
        due("one", y.pairs(NONE), 1);
        due("of equal ones the first", y.pairs(0), 1);
        due("c has none", y.pairs(2), NONE);
        BorrowedLives z = town(four + "wish " + ac + "+" + ab + "-(able=1)*(money=1);");
        due("b would not", z.pairs(0), 2);
        due("one", z.pairs(NONE), 1);
    }

    // PAIRS: "each would rather have the other one's LIFE ... (wish of it above wish of his own)": above, equal, below.
    static void promise20AboveHisOwn() {
        String two = person("a", "plain", 0, 1, 0, 5) + person("b", "plain", 1, 2, 0, 5) + "wish ";
        due("both above", town(two + "5+(able+1<money)+(money<able+1);").pairs(NONE), 1);
        due("both equal", town(two + "5;").pairs(NONE), 0);
        due("both below", town(two + "5+(able+1=money);").pairs(NONE), 0);
        due("one above, one equal", town(two + "5+(able+1<money);").pairs(NONE), 0);
        due("one equal, one above", town(two + "5+(money<able+1);").pairs(NONE), 0);
        due("below 0", town(two + "0-5-(able+1=money);").pairs(NONE), 1);
    }

    // PAIRS: "(..., all ints)": the least int is below the greatest one, though their difference wraps.
    static void promise20AllInts() {
        String two = person("a", "plain", 0, 0, 0, 5) + person("b", "plain", 1, 1, 0, 5) + "wish ";
        due("own the least, other the greatest", town(two + MAX + "+(able=money);").pairs(NONE), 1);
        due("own the greatest, other the least", town(two + MAX + "+not(able=money);").pairs(NONE), 0);
        due("the least int both", town(two + MAX + "+1;").pairs(NONE), 0);
        due("one above the least", town(two + MAX + "+1+not(able=money);").pairs(NONE), 1);
    }

    // E: "able (...; of wish of who wishes), trade (his kind ...)", "money (...)": a thief who wishes finds nothing hidden.
    static void promise20WishesAreHisOwn() {
        String two = person("a", "thief", 2, 9, 0, 5) + person("b", "mayor", 7, 5, 0, 5);
        due("by kind", town(two + "wish (trade=2)*(money=5)+(trade=3)*(money=9);").pairs(NONE), 1);
        due("by skill", town(two + "wish (able=2)*(money=5)+(able=7)*(money=9);").pairs(NONE), 1);
        BorrowedLives x = town(two + "wish (trade=2)*(money=0)+(trade=3)*(money=9);");
        due("a sees 5", x.pairs(NONE), 0);
        x.hide(1, 5);
        due("a sees 0", x.pairs(NONE), 1);
        x.hide(0, 1);
        due("b sees 8", x.pairs(NONE), 0);
        BorrowedLives own = town(two + "wish (trade=2)*(9-money)+(trade=3)*money;");
        due("a would rather have less, b more", own.pairs(NONE), 1);
        own.hide(0, 9);
        due("of his own a thief finds nothing hidden", own.pairs(NONE), 0);
    }

    // E: "of all four money (..., 0 at least; ...)": of wish, too, when a thief took what is hidden.
    static void promise20MoneyIs0AtLeast() {
        BorrowedLives x = town(person("a", "plain", 0, 30, 0, 5) + person("b", "thief", 1, 0, 0, 5)
                + "spends able*9;mends 0;wish (able=1)*(money=0)+(able=0)*(money=9);");
        x.hide(0, 22);
        due("b sees 8", x.pairs(NONE), 0);
        x.lot(0);
        x.day();
        due("b sees 0 of 21 with 22 hidden", x.pairs(NONE), 1);
        x.day();
        due("a sees 18", x.pairs(NONE), 0);
    }

    // E: "without wish: money - owed + neat * 5": the same for all who wish, so that never two would.
    static void promise20WishUntold() {
        BorrowedLives x = town(person("a", "plain", 9, 999, 0, 9) + person("b", "thief", 0, 0, 999, 0) + person("c", "mayor", 4, 50, 50, 5));
        due("none", x.pairs(NONE), 0);
        due("of two alike none", town(SIX).pairs(NONE), 0);
    }

    // Promise 21: "A TALE: true; false: others" (TALES: "held so much (0 to 9,999) behind a DAY (1 to 7)").
    static void promise21TalesWithin() {
        BorrowedLives x = town(SIX);
        int[][] others = {{-1, 1, 5}, {6, 1, 5}, {0, 0, 5}, {0, 8, 5}, {0, -1, 5}, {0, 1, -1}, {0, 1, 10000}, {INTS[0], 1, 5}, {INTS[1], 1, 5},
            {0, INTS[0], 5}, {0, INTS[1], 5}, {0, 1, INTS[0]}, {0, 1, INTS[1]}};
        for (int[] t : others) {
            leaves("others", x, () -> yes(x.tale(t[0], t[1], t[2])), 0);
        }
        int[][] within = {{0, 1, 5}, {5, 1, 5}, {0, 7, 5}, {0, 1, 0}, {0, 1, 9999}};
        for (int[] t : within) {
            due("within", x.tale(t[0], t[1], t[2]), true);
        }
        due("told", x.count(10), 5);
        due("a third of two", town(TWO).tale(2, 1, 5), false);
        due("nobody", new BorrowedLives().tale(0, 1, 0), false);
    }

    // TALES: "8 at most"; Promise 21: "false: ... 8 are told".
    static void promise21EightTalesAtMost() {
        BorrowedLives x = spender(5);
        for (int told = 1; told <= 7; told++) {
            due("told", x.tale(0, 1, 0), true);
        }
        due("all fit", x.how(), 1);
        due("the eighth", x.tale(0, 1, 5), true);
        due("it counts", x.how(), 0);
        leaves("a ninth", x, () -> yes(x.tale(0, 1, 0)), 0);
        due("eight", x.count(10), 8);
    }

    // TALES: "behind a DAY (1 to 7)": behind the first and the last one; Promise 22: "HOW many LOTS go with all TALES".
    static void promise22BehindEachDay() {
        int[] purses = {29, 28, 27, 26, 25, 24, 23};
        for (int day = 1; day <= 7; day++) {
            BorrowedLives x = ofThree(30, 1, 0);
            x.tale(0, day, purses[day - 1]);
            due("by b", x.how(), 1);
            due("by b", x.who(0), 1);
            BorrowedLives y = ofThree(30, 1, 0);
            y.tale(0, day, purses[day - 1] - 1);
            due("one less is wrong", y.how(), 0);
            BorrowedLives z = ofThree(30, 1, 0);
            z.tale(0, day, 30);
            due("by c", z.who(0), 2);
        }
    }

    // Promise 22: "HOW many LOTS go with all TALES": without a TALE all, with one against another none; of nobody none.
    static void promise22AllNoneOfNobody() {
        BorrowedLives x = town(SIX + "spends 0;");
        due("all", x.how(), 265);
        x.tale(5, 7, 50);
        due("all", x.how(), 265);
        x.tale(5, 7, 51);
        due("none", x.how(), 0);
        for (BorrowedLives none : withoutLots()) {
            due("no lot", none.how(), 0);
        }
        BorrowedLives y = ofThree(30, 1, 0);
        y.tale(0, 1, 29);
        y.tale(0, 7, 30);
        due("the one by b, the other by c", y.how(), 0);
    }

    // Promise 23: "A LIFE's SELF by all TALES; NONE: others, no LOT, not the same in all".
    static void promise23TheSameInAll() {
        BorrowedLives x = town(THREE + "bar ann cid;");
        due("one lot", x.lots(), 1);
        due("the first", x.who(0), 2);
        due("the last", x.who(2), 1);
        due("beyond the last", x.who(3), NONE);
        due("ahead of the first", x.who(-1), NONE);
        for (int life : INTS) {
            due("others", x.who(life), NONE);
        }
        for (BorrowedLives none : withoutLots()) {
            due("no lot", none.who(0), NONE);
        }
        BorrowedLives y = town(FOUR + "bar a b;bar a c;");
        due("three lots", y.how(), 3);
        due("the same in all", y.who(3), 0);
        due("not the same", y.who(0), NONE);
        y.tale(0, 1, 9999);
        due("in none", y.who(3), NONE);
        BorrowedLives z = ofThree(30, 1, 0);
        due("two", z.who(0), NONE);
        z.tale(0, 1, 29);
        due("one", z.who(0), 1);
    }

    // Promise 24: "ASK, as LIFE * 8 + DAY; NONE: none parts them": no LOT, one LOT, LOTS all alike.
    static void promise24NonePartsThem() {
        for (BorrowedLives none : withoutLots()) {
            due("no lot", none.ask(), NONE);
        }
        due("one lot", town(TWO).ask(), NONE);
        due("all alike", town(SIX + "spends 0;").ask(), NONE);
        due("b and c alike", ofThree(30, 1, 1).ask(), NONE);
        due("one coin less", ofThree(30, 1, 2).ask(), 1);
        BorrowedLives x = ofThree(30, 1, 0);
        x.tale(0, 1, 9999);
        due("none fits", x.ask(), NONE);
    }

    // ASK: "the LIFE and DAY (by LIVES, then DAYS)": DAY 7 of the last LIFE is looked at, too.
    static void promise24TheLastDayOfTheLastLife() {
        // On DAY k homes are k - 1; a, a mayor, pays of LIFE 2 by the one LOT, b does not by the other.
        String text = person("a", "mayor", 1, 0, 0, 0) + person("b", "mayor", 0, 0, 0, 0) + person("c", "mayor", 0, 5, 5, 0)
                + "mends 1;spends able*(neat=%d);";
        due("DAY 1 of LIFE 2", town(text.replace("%d", "0")).ask(), 2 * 8 + 1);
        due("DAY 7 of LIFE 2", town(text.replace("%d", "6")).ask(), 2 * 8 + 7);
        due("an eighth", town(text.replace("%d", "7")).ask(), NONE);
    }

    // ASK: "the greatest number of these with like purses is the least, if it is less than all".
    static void promise24TheGreatestNumberIsTheLeast() {
        String rest = mayor("c", 1, 0) + mayor("d", 2, 0) + "spends able;mends 0;";
        // LIFE 0 holds 1: b leaves it, c and d take it: 3 and 6. LIFE 1 holds 9: a, c, d leave 9, 8, 7: 3, 3 and 3.
        due("thirds rather than 3 and 6", town(mayor("a", 0, 1) + mayor("b", 0, 9) + rest).ask(), 9);
        due("3 and 6 by both: the first", town(mayor("a", 0, 1) + mayor("b", 0, 1) + rest).ask(), 1);
        due("3 and 6 rather than all 9", town(mayor("a", 0, 0) + mayor("b", 0, 1) + rest).ask(), 9);
        BorrowedLives told = town(mayor("a", 0, 1) + mayor("b", 0, 9) + rest);
        told.tale(1, 1, 9);
        due("of the three left by LIFE 0: 2 and 1", told.ask(), 1);
    }

    // Promise 25: "LAW; NONE: others, there is no LOT" (LAW: "if so much (0 to 999) may be signed for").
    static void promise25Signs0To999() {
        BorrowedLives x = spender(999);
        for (int sign : new int[] {-1, 1000, INTS[0], INTS[1]}) {
            leaves("sign " + sign, x, () -> x.law(sign), NONE);
        }
        due("0", x.law(0), 0);
        due("1", x.law(1), 7000);
        due("998", x.law(998), 999000);
        due("999", x.law(999), 999000);
        for (BorrowedLives none : withoutLots()) {
            due("no lot", none.law(5), NONE);
        }
    }

    // LAW: "in place of what is told": less or more than that, which stays.
    static void promise25InPlaceOfWhatIsTold() {
        BorrowedLives x = town(person("a", "plain", 0, 900, 0, 5) + poor("b", 1) + "spends able*9;mends 0;sign 5;");
        due("4", x.law(4), 28000);
        due("5", x.law(5), 35000);
        due("6", x.law(6), 42000);
        due("9", x.law(9), 63000);
        due("10: more is not spent", x.law(10), 63000);
        due("as told", x.count(2), 5);
        due("as told", x.least(NONE), 35);
    }

    // ==== 3.: "nobody home ahead of that": away, too, LAW counts from now, and what is hidden stays hidden.
    static void promise25FromHowItIsNow() {
        BorrowedLives x = spender(30);
        x.hide(0, 12);
        due("18 can be found", x.law(999), 18000);
        x.lot(0);
        due("away, still hidden", x.law(999), 18000);
        due("1 a day", x.law(1), 7000);
        x.day();
        due("none is left to find", x.law(999), 0);
        leaves("away still", x, () -> x.law(999), 0);
        x.home();
        due("nothing is hidden at home", x.law(999), 12000);
    }

    // LAW: "the HARM of all by all LOTS together, ...; on the mean, in thousandths, cut".
    static void promise25MeansAreCut() {
        due("7 by one of two", ofThree(30, 1, 0).law(50), 3500);
        due("1 by one of two", ofThree(1, 1, 0).law(50), 500);
        due("7 and 14", ofThree(30, 1, 2).law(50), 10500);
        String text = person("a", "plain", 0, 1, 7, 5) + poor("b", 1);
        due("3 of 9", town(text + poor("c", 0) + poor("d", 0) + ONLY_OF_LIFE_0).law(1), 333);
        due("6 of 9, cut", town(text + poor("c", 1) + poor("d", 0) + ONLY_OF_LIFE_0).law(1), 666);
        BorrowedLives fall = town(alike("a", 0) + alike("b", 0) + "spends 0;mends 0-1;");
        due("one LOT: two homes fall from 5", fall.law(50), 50000);
        due("its own", fall.prepare(0, 1), 25000);
        BorrowedLives both = town(person("a", "plain", 1, 0, 0, 5) + person("b", "plain", 1, 0, 0, 3) + "spends 0;mends 0-able;");
        due("of all: 25 and 15", both.law(0), 40000);
    }

    // Promise 26: "NoSuchElementException: others": "so much (0 to 9)", three times.
    static void promise26Gains0To9() {
        BorrowedLives x = new BorrowedLives();
        for (int other : new int[] {-1, 10, INTS[0], INTS[1]}) {
            refused("gets " + other, () -> x.rests(other, 1, 1, NONE));
            refused("both " + other, () -> x.rests(1, other, 1, NONE));
            refused("loses " + other, () -> x.rests(1, 1, other, NONE));
            refused("gets " + other, () -> x.rests(other, 1, 1, 0));
        }
        due("0, 0, 0: all", x.rests(0, 0, 0, NONE), 36);
        due("9, 9, 9: 1 1, too", x.rests(9, 9, 9, NONE), 2);
        due("9, 0, 9: 0 0 alone", x.rests(9, 0, 9, NONE), 1);
        due("0, 9, 0: both alike", x.rests(0, 9, 0, NONE) > 1, true);
    }

    // Promise 26: "what NONE: how many; i: the i-th ...; NoSuchElementException: ..., none such".
    static void promise26NoneSuch() {
        BorrowedLives x = new BorrowedLives();
        due("36", x.rests(5, 0, 0, NONE), 36);
        due("the first", x.rests(5, 0, 0, 0), 0);
        due("the last", x.rests(5, 0, 0, 35), 55);
        refused("the one behind it", () -> x.rests(5, 0, 0, 36));
        refused("what -2", () -> x.rests(5, 0, 0, -2));
        due("one", x.rests(3, 0, 1, NONE), 1);
        due("it", x.rests(3, 0, 1, 0), 0);
        refused("a second", () -> x.rests(3, 0, 1, 1));
        for (int what : INTS) {
            refused("what " + what, () -> x.rests(3, 0, 1, what));
        }
    }

    // CARE: "each cares 0 to 5"; Promise 26: "10 * the first one's + the other one's (the least first)".
    static void promise26Cares0To5() {
        BorrowedLives x = new BorrowedLives();
        for (int i = 0; i < 36; i++) {
            due("all, the least first", x.rests(0, 0, 0, i), 10 * (i / 6) + i % 6);
        }
        for (int i = 0; i < 6; i++) {
            due("9 for both, 1 each: alike, 5 5 the last", x.rests(0, 9, 1, i), 11 * i);
        }
        due("six", x.rests(0, 9, 1, NONE), 6);
    }

    // RESTS: "by which neither would get more by another care": as much is not more.
    static void promise26NeitherWouldGetMore() {
        BorrowedLives x = new BorrowedLives();
        // By 1 for both and 1: the first care brings 1 and takes 1, as much; the second takes 3.
        due("as much by 1", x.rests(0, 1, 1, NONE), 2);
        due("0 0", x.rests(0, 1, 1, 0), 0);
        due("1 1", x.rests(0, 1, 1, 1), 11);
        // By 1 and 2 the first one takes 2.
        due("less by 1", x.rests(0, 1, 2, NONE), 1);
        // By 3 and 1 the second brings 3 and takes 3 more, the third takes 5.
        due("as much by 2", x.rests(0, 3, 1, NONE), 3);
        due("2 2", x.rests(0, 3, 1, 2), 22);
        due("by 4 no more", x.rests(0, 4, 1, NONE), 3);
        due("by 5 as much by 3", x.rests(0, 5, 1, NONE), 4);
        // Care costs nothing: below the other's it would bring more, above it as much.
        due("the lesser would care more", x.rests(0, 9, 0, NONE), 6);
        due("5 5", x.rests(0, 9, 0, 5), 55);
    }

    // CARE: "he gets so much ... for each that the other one cares": that he can't change, so that no RESTS come or go by it.
    static void promise26WhatHeGetsDoesNotMatter() {
        BorrowedLives x = new BorrowedLives();
        for (int gets = 0; gets < 10; gets++) {
            due("gets " + gets, x.rests(gets, 3, 1, NONE), 3);
            due("gets " + gets, x.rests(gets, 3, 1, 2), 22);
        }
    }

    // Promise 27: "YEARS by a SEED (0 to 9999), what 0 ..., 1 ..., 2 ...; NONE: others" (YEARS: "of so many (1 to 20)").
    static void promise27OthersAreNone() {
        BorrowedLives x = town(TWO);
        for (int other : INTS) {
            due("seed", x.years(other, 1, 0), NONE);
            due("years", x.years(1, other, 0), NONE);
            due("what", x.years(1, 1, other), NONE);
        }
        due("seed -1", x.years(-1, 1, 2), NONE);
        due("seed 0", x.years(0, 1, 2) > 0, true);
        due("seed 9999", x.years(9999, 1, 2) > 0, true);
        due("seed 10000", x.years(10000, 1, 2), NONE);
        due("years -1", x.years(1, -1, 2), NONE);
        due("years 0", x.years(1, 0, 2), NONE);
        due("years 1", x.years(1, 1, 2) > 0, true);
        due("years 20", x.years(1, 20, 2) > 0, true);
        due("years 21", x.years(1, 21, 2), NONE);
        due("what -1", x.years(1, 1, -1), NONE);
        due("what 0", x.years(1, 1, 0) > 0, true);
        due("what 1", x.years(1, 1, 1) > 0, true);
        due("what 3", x.years(1, 1, 3), NONE);
    }

    /** b, of skill 8, spends up to 56 in a YEAR of what is not hidden of LIFE 0. */
    static BorrowedLives yearly(int purse) {
        return town(person("a", "plain", 0, purse, 0, 5) + poor("b", 8) + "spends able;mends 0;");
    }

    // YEARS: "for each LIFE a DRAW below 3: if it is 0 ... 20 coins of it are hidden": at 0, not at 1, not at 2; of each LIFE.
    static void promise27HidesByADrawOf0() {
        // Seed 0 draws 0 and 0, 5: 1 and 0, 3: 2 and 0, 9: 0 and 1, 22: 1 and 1.
        due("0", yearly(30).years(0, 1, 0), 10);
        due("1", yearly(30).years(5, 1, 0), 30);
        due("2", yearly(30).years(3, 1, 0), 30);
        BorrowedLives x = town(person("a", "plain", 8, 0, 0, 5) + person("b", "plain", 0, 30, 0, 5) + "spends able;mends 0;");
        due("LIFE 1 by 0", x.years(3, 1, 0), 10);
        due("LIFE 1 by 1", x.years(9, 1, 0), 30);
        due("both by 1", x.years(22, 1, 0), 30);
    }

    // YEARS: "and its purse holds 20, 20 coins of it are hidden": 19, 20, 21.
    static void promise27ItsPurseHolds20() {
        due("19", yearly(19).years(0, 1, 0), 19);
        due("20", yearly(20).years(0, 1, 0), 0);
        due("21", yearly(21).years(0, 1, 0), 1);
        due("0", yearly(0).years(0, 1, 0), 0);
        due("999: 8 on 7 days", yearly(999).years(0, 1, 0), 56);
        BorrowedLives x = yearly(30);
        x.hide(0, 30);
        due("20 in place of 30", x.years(0, 1, 0), 10);
    }

    // YEARS: "(nothing is hidden behind each of these, LOT or not)".
    static void promise27NothingIsHiddenBehindEach() {
        // Seed 0 draws 0, 1, 1 for LIFE 0; seed 14: 0, 0, 0.
        due("one year", yearly(30).years(0, 1, 0), 10);
        due("in the second all 20 are there", yearly(30).years(0, 2, 0), 30);
        due("then none", yearly(30).years(0, 3, 0), 30);
        due("hidden anew each time", yearly(30).years(14, 3, 0), 10);
        due("what is hidden now is not in the second", hiding(30).years(5, 2, 0), 30);
    }

    static BorrowedLives hiding(int coins) {
        BorrowedLives x = yearly(30);
        x.hide(0, coins);
        return x;
    }

    // YEARS: "so many (1 to 20)": each of them, by a DRAW for each LIFE and one for the LOT.
    static void promise27EachOf20Years() {
        for (int years = 1; years <= 20; years++) {
            long g = 77;
            int purse = 999;
            for (int year = 0; year < years; year++) {
                g = (g * 1103515245L + 12345) % 2147483648L;
                boolean hides = g / 65536 % 3 == 0 && purse >= 20;
                purse -= Math.min(56, hides ? purse - 20 : purse);
                g = (g * 1103515245L + 12345) % 2147483648L;
                g = (g * 1103515245L + 12345) % 2147483648L;
            }
            BorrowedLives x = yearly(999);
            due("harm of " + years, x.years(77, years, 0), 999 - purse);
            due("good of " + years, x.years(77, years, 1), 999 - purse);
            due("purses of " + years, x.years(77, years, 2), 999);
        }
    }

    // YEARS: "then, if there is any LOT, one by a DRAW below how many there are": without one no HARM, no GOOD.
    static void promise27IfThereIsAnyLot() {
        for (BorrowedLives x : withoutLots()) {
            due("no harm", x.years(1, 20, 0), 0);
            due("no good", x.years(1, 20, 1), 0);
            due("purses", x.years(1, 20, 2), x.count(7));
        }
        // Seed 0 draws 0, 0, 1 and then 1 of 2; seed 3 draws 2, 0, 0 and then 0 of 2.
        due("the second LOT", ofThree(10, 1, 0).years(0, 1, 0), 0);
        due("the first LOT", ofThree(10, 1, 0).years(3, 1, 0), 7);
        due("the second LOT", ofThree(10, 0, 1).years(0, 1, 0), 7);
    }

    // YEARS: "GOOD of all (just ahead of HOME)", "HARM of all": of each LIFE, the first and the last, too.
    static void promise27OfAll() {
        due("all three better", goodOrHarm(1, 1, 1, 1), 30);
        due("all three worse", goodOrHarm(-1, -1, -1, 0), 105);
        due("no good", goodOrHarm(-1, -1, -1, 1), 0);
        due("no harm", goodOrHarm(1, 1, 1, 0), 0);
        due("two better", goodOrHarm(1, 0, 1, 1), 20);
        due("two worse", goodOrHarm(0, -1, -1, 0), 70);
        due("one better", goodOrHarm(1, -1, 0, 1), 10);
        due("one worse", goodOrHarm(1, -1, 0, 0), 35);
    }

    /** What a year does in which a, b and c make the homes they lead, which are 7, so much better each day. */
    static int goodOrHarm(int a, int b, int c, int what) {
        String text = person("a", "plain", a + 1, 0, 0, 7) + person("b", "plain", b + 1, 0, 0, 7) + person("c", "plain", c + 1, 0, 0, 7);
        return town(text + "spends 0;mends able-1;").years(1, 1, what);
    }

    // YEARS: "(all is as ahead then; who is away comes HOME first, that HARM is not told)".
    static void promise27WhoIsAwayComesHomeFirst() {
        BorrowedLives x = yearly(60);
        x.hide(0, 50);
        x.lot(0);
        x.day();
        due("8 are harmed", x.life(0, 5), 8);
        leaves("52 are left, nothing hidden: 52", x, () -> x.years(5, 1, 0), 52);
        leaves("good of that year", x, () -> x.years(5, 1, 1), 52);
        leaves("purses", x, () -> x.years(5, 20, 2), 60);
        due("away as ahead", x.day(), 2);
        due("back", x.undo(), true);
        due("undone as ahead", x.count(11), 3);
    }

    // MARKS: "0 to 3"; Promise 28: "true; false: none such".
    static void promise28Marks0To3() {
        BorrowedLives x = town(TWO);
        for (int other : new int[] {-1, 4, INTS[0], INTS[1]}) {
            leaves("lay " + other, x, () -> yes(x.mark(other, false)), 0);
            leaves("back to " + other, x, () -> yes(x.mark(other, true)), 0);
        }
        for (int mark = 0; mark < 4; mark++) {
            x.hide(0, mark + 1);
            due("lay", x.mark(mark, false), true);
        }
        for (int mark = 0; mark < 4; mark++) {
            due("back", x.mark(mark, true), true);
            due("each its own", x.life(0, 3), mark + 1);
        }
    }

    // Promise 28: "false: ..., nothing is on it (back)": before it is laid, and behind another TOWN.
    static void promise28NothingIsOnIt() {
        BorrowedLives x = town(TWO);
        x.hide(0, 9);
        for (int mark = 0; mark < 4; mark++) {
            int m = mark;
            leaves("not laid", x, () -> yes(x.mark(m, true)), 0);
        }
        x.mark(1, false);
        leaves("the next one", x, () -> yes(x.mark(2, true)), 0);
        leaves("the one ahead", x, () -> yes(x.mark(0, true)), 0);
        due("that one", x.mark(1, true), true);
        due("as often as one likes", x.mark(1, true), true);
        feed(x, TWO);
        x.town();
        due("another TOWN", x.mark(1, true), false);
        BorrowedLives nobody = new BorrowedLives();
        due("nobody's", nobody.mark(0, true), false);
        due("nobody lays", nobody.mark(0, false), true);
        due("nobody's", nobody.mark(0, true), true);
    }

    // MARKS: "(nothing can be undone when one is gone back to)": to lay one leaves what can be.
    static void promise28NothingCanBeUndoneThen() {
        BorrowedLives x = town(TWO);
        x.hide(0, 1);
        x.hide(0, 2);
        leaves("laid", x, () -> yes(x.mark(0, false)), 1);
        leaves("refused", x, () -> yes(x.mark(1, true)), 0);
        due("two can be", x.count(11), 2);
        due("back", x.mark(0, true), true);
        due("none can be", x.count(11), 0);
        due("no undo", x.undo(), false);
        due("as marked", x.life(0, 3), 2);
        x.hide(0, 3);
        due("from then on", x.undo(), true);
        due("as marked", x.life(0, 3), 2);
    }

    // MARKS: "hold LIVES, who leads them, the DAYS, HARM, TALES, how many HOMES there were": all that; laid anew, what is then.
    static void promise28WhatTheyHold() {
        BorrowedLives x = town(THREE);
        x.lot(0);
        x.day();
        x.home();
        x.hide(0, 9);
        x.lot(0);
        x.day();
        x.tale(0, 7, x.life(0, 0) - 12);
        String marked = held(x);
        String foreseen = foresee(x);
        due("laid", x.mark(3, false), true);
        x.day();
        x.tale(1, 1, 5);
        x.home();
        x.lot(1);
        x.day();
        due("otherwise", foresee(x).equals(foreseen), false);
        due("back", x.mark(3, true), true);
        due("all as marked", held(x), marked);
        due("foreseen as then", foresee(x), foreseen);
        due("the day behind it", x.day(), 2);
        due("laid anew", x.mark(3, false), true);
        x.home();
        due("back", x.mark(3, true), true);
        due("as it was then", x.count(4), 2);
    }

    // MARKS: "TALES": which they were, not only how many.
    static void promise28TheTalesOfThen() {
        BorrowedLives x = ofThree(30, 1, 0);
        x.tale(0, 2, 28);
        due("by b", x.who(0), 1);
        x.mark(0, false);
        x.tale(0, 7, 30);
        due("none", x.how(), 0);
        due("back", x.mark(0, true), true);
        due("one tale", x.count(10), 1);
        due("by b", x.who(0), 1);
        BorrowedLives y = ofThree(30, 1, 0);
        y.mark(1, false);
        y.tale(0, 2, 28);
        y.mark(2, false);
        y.mark(1, true);
        y.tale(1, 1, 0);
        due("by c LIFE 1 gets nothing", y.who(0), 2);
        y.mark(3, false);
        y.mark(2, true);
        due("by b LIFE 0 holds 28 behind DAY 2", y.who(0), 1);
        y.mark(3, true);
        due("by c LIFE 1 holds 0 behind DAY 1", y.who(0), 2);
        y.mark(1, true);
        due("no tale", y.how(), 2);
    }

    // Promise 29: "NONE for another what": -1 and 13, beside 0 and 12.
    static void promise29AnotherWhatIsNone() {
        BorrowedLives x = town(TWO);
        feed(x, "day");
        due("-1", x.count(-1), NONE);
        due("0", x.count(0), 2);
        due("12", x.count(12), 3);
        due("13", x.count(13), NONE);
        due("the least int", x.count(INTS[0]), NONE);
        due("the greatest int", x.count(INTS[1]), NONE);
    }

    // Promise 29: "3: 1 all are away, 4: DAYS since the LOT": at home 0 and 0, away 1 and 0 to 7.
    static void promise29AwayAndDays() {
        BorrowedLives x = town(TWO);
        due("at home", x.count(3), 0);
        due("no days", x.count(4), 0);
        x.lot(0);
        for (int day = 0; day <= 7; day++) {
            due("away", x.count(3), 1);
            due("days", x.count(4), day);
            x.day();
        }
        due("7 at most", x.count(4), 7);
        x.home();
        due("at home", x.count(3), 0);
        x.lot(0);
        due("since the LOT", x.count(4), 0);
    }

    // Promise 29: "10: TALES, 11: what can be undone, 12: signs on the TAPE": each at its most.
    static void promise29EachAtItsMost() {
        BorrowedLives x = town(SIX);
        due("people", x.count(0), 6);
        for (int i = 0; i < 20; i++) {
            x.hide(0, i);
            x.tale(0, 1, i);
        }
        due("tales", x.count(10), 8);
        due("can be undone", x.count(11), 16);
        year(x, "day;".repeat(40));
        due("lines", x.count(9), 40);
        feed(x, " ".repeat(1100));
        due("signs", x.count(12), 1000);
        String purses = "";
        for (char name = 'a'; name <= 'f'; name++) {
            purses += person(String.valueOf(name), "plain", 0, 999, 999, 0);
        }
        BorrowedLives rich = town(purses);
        due("purses", rich.count(7), 5994);
        due("debts", rich.count(8), 5994);
    }
}
