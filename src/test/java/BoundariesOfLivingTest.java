/**
 * Each sentence on living by hand that names a boundary, on both of its sides: promises 5 to 14 with the Terms that they
 * use (E's facts and untold laws, A LOT, A DAY, By hand, HARM and GOOD, JUDGED). Each test's first comment tells the sentence.
 */
public final class BoundariesOfLivingTest extends Check {
    static final String MAX = BoundariesOfReadingTest.MAX;

    public static void main(String[] args) {
        runAll(BoundariesOfLivingTest.class, 5, 14);
    }

    /** Away for a DAY by the first LOT. */
    static BorrowedLives behindADay(String text) {
        BorrowedLives x = town(text);
        due("the first lot", x.lot(0), 0);
        due("a day", x.day(), 1);
        return x;
    }

    /** a, of skill 0, whose LIFE 0 is led by b, of skill 1; by laws that begin with "able *" only b does anything. */
    static String pair(String kindOfB, int purse, int debt, int home) {
        return person("a", "plain", 0, purse, debt, home) + person("b", kindOfB, 1, 0, 0, 5);
    }

    /** What b spends of LIFE 0 on the first DAY, by that E and what may be signed for. */
    static int spent(String kindOfB, int purse, int hidden, String e, int sign) {
        BorrowedLives x = town(pair(kindOfB, purse, 0, 5) + "spends able*(" + e + ");mends 0;sign " + sign + ";");
        x.hide(0, hidden);
        x.lot(0);
        x.day();
        due("all of it went to LIFE 1", x.life(1, 0), purse - x.life(0, 0));
        return purse - x.life(0, 0);
    }

    /** How the home of LIFE 0 is behind the first DAY, by that E of mends. */
    static int mended(int home, String e) {
        return behindADay(pair("plain", 9, 0, home) + "spends 0;mends able*(" + e + ");").life(0, 2);
    }

    static void duePurses(BorrowedLives x, int... purses) {
        for (int life = 0; life < purses.length; life++) {
            due("purse of LIFE " + life, x.life(life, 0), purses[life]);
        }
    }

    /** Six, of whom f, a thief, led all other LIVES and sent all their coins home: LIFE 5 holds 5,994, the most there can be. */
    static BorrowedLives rich() {
        String text = "";
        for (char name = 'a'; name < 'f'; name++) {
            text += person(String.valueOf(name), "plain", 0, 999, 0, 5);
        }
        BorrowedLives x = town(text + person("f", "thief", 1, 999, 0, 5) + "spends able*999;mends 0;sign 999;");
        int robbed = 0;
        for (int seed = 0; seed < 60 && robbed < 5; seed++) {
            x.lot(seed);
            if (x.person(5, 2) == robbed) {
                x.day();
                x.home();
                robbed++;
            } else {
                x.undo();
            }
        }
        due("all five are robbed", robbed, 5);
        return x;
    }

    // Promise 5: "Of a PERSON, what 0 ..., 1 ..., 2 ...; NONE: others": the first and the last PERSON and what, and those beyond.
    static void promise5OthersAreNone() {
        BorrowedLives x = town(SIX);
        due("the first", x.person(0, 1), 3);
        due("the last", x.person(5, 1), 3);
        for (int what = 0; what < 3; what++) {
            due("beyond the last", x.person(6, what), NONE);
            due("ahead of the first", x.person(-1, what), NONE);
        }
        due("what 0", x.person(5, 0), 0);
        due("what 2", x.person(5, 2), 5);
        due("what 3", x.person(5, 3), NONE);
        due("what -1", x.person(5, -1), NONE);
        BorrowedLives y = town(TWO);
        due("the last of two", y.person(1, 1), 2);
        due("a third", y.person(2, 1), NONE);
        due("nobody", new BorrowedLives().person(0, 0), NONE);
    }

    // Promise 5: "2: whose LIFE he leads (his own at home)": at home and away.
    static void promise5HisOwnAtHome() {
        BorrowedLives x = town(TWO);
        due("at home", x.person(0, 2), 0);
        x.lot(0);
        due("away", x.person(0, 2), 1);
        due("away", x.person(1, 2), 0);
        x.home();
        due("at home", x.person(0, 2), 0);
        due("at home", x.person(1, 2), 1);
    }

    // Promise 6: "Of a LIFE, what 0 ... 6 ...; NONE: others": the first and the last LIFE and what, and those beyond.
    static void promise6OthersAreNone() {
        BorrowedLives x = town(SIX);
        due("the first", x.life(0, 0), 50);
        due("the last", x.life(5, 0), 50);
        for (int what = 0; what < 7; what++) {
            due("beyond the last", x.life(6, what), NONE);
            due("ahead of the first", x.life(-1, what), NONE);
        }
        due("what 6", x.life(5, 6), 0);
        due("what 7", x.life(5, 7), NONE);
        due("what -1", x.life(5, -1), NONE);
        due("a third of two", town(TWO).life(2, 0), NONE);
        due("nobody", new BorrowedLives().life(0, 4), NONE);
    }

    // Promise 6: "5: HARM, 6: GOOD (0 at home)": away they are told, at home they are 0.
    static void promise6HarmAndGoodAre0AtHome() {
        BorrowedLives x = town(TWO);
        due("at home", x.life(0, 5) + x.life(0, 6), 0);
        x.lot(0);
        due("no day yet", x.life(0, 5) + x.life(0, 6), 0);
        x.day();
        due("harm, away", x.life(0, 5), 5);
        due("good, away", x.life(0, 6), 3);
        x.home();
        due("harm, at home", x.life(0, 5), 0);
        due("good, at home", x.life(0, 6), 0);
    }

    // HARM and GOOD: "(each of these, 0 at least)": a purse that is less and a home that is better don't make up for one another.
    static void promise6HarmAndGoodAre0AtLeast() {
        BorrowedLives lost = behindADay(pair("plain", 9, 0, 5) + "spends able*4;mends able*2;");
        due("4 coins less", lost.life(0, 5), 4);
        due("home 2 better", lost.life(0, 6), 10);
        BorrowedLives won = behindADay(pair("plain", 9, 0, 5) + "spends (able=0)*4;mends (able=1)*(0-1);");
        due("home 1 worse", won.life(0, 5), 5);
        due("no coins more", won.life(0, 6), 0);
        BorrowedLives none = behindADay(pair("plain", 9, 0, 5) + "spends 0;mends 0;");
        due("no harm", none.life(0, 5), 0);
        due("no good", none.life(0, 6), 0);
        BorrowedLives all = behindADay(pair("plain", 9, 0, 5) + "spends able*9;mends able*(0-3);");
        due("9 coins and 3 of the home", all.life(0, 5), 24);
        due("no good", all.life(0, 6), 0);
        due("9 coins came", all.life(1, 6), 9);
        due("no harm", all.life(1, 5), 0);
    }

    // HARM: "by how much less its purse less its debt is": a coin that pays the debt is neither HARM nor GOOD, below 0, too.
    static void promise6PaidDebtsAreNoHarm() {
        BorrowedLives x = behindADay(pair("mayor", 9, 30, 5) + "spends able*9;mends 0;");
        due("purse", x.life(0, 0), 0);
        due("debt", x.life(0, 1), 21);
        due("no harm", x.life(0, 5), 0);
        due("no good", x.life(0, 6), 0);
        BorrowedLives y = behindADay(pair("plain", 9, 30, 5) + "spends able*9;mends 0;");
        due("from -21 to -30", y.life(0, 5), 9);
    }

    // HARM: "than when the LOT was drawn": a SWAP is no LOT.
    static void promise6ASwapLeavesTheHarm() {
        BorrowedLives x = town(person("a", "plain", 0, 30, 0, 5) + person("b", "plain", 1, 0, 0, 5) + person("c", "plain", 0, 0, 0, 5)
                + person("d", "plain", 0, 0, 0, 5) + "spends able*4;mends 0-able;");
        x.lot(0);
        x.day();
        due("4 coins and 1 of the home", x.life(0, 5), 9);
        due("good", x.life(1, 6), 4);
        due("swap", x.swap(0, 2), true);
        due("no less", x.life(0, 5), 9);
        due("no less", x.life(1, 6), 4);
        x.day();
        due("twice as much", x.life(0, 5), 18);
    }

    // HARM: "than when the LOT was drawn": anew by the next LOT.
    static void promise6HarmIsSinceTheLot() {
        BorrowedLives x = behindADay(pair("plain", 9, 0, 5) + "spends able*4;mends 0;");
        due("4 less", x.life(0, 5), 4);
        due("5 left", x.life(0, 0), 5);
        x.home();
        x.lot(0);
        due("no day since", x.life(0, 5), 0);
        x.day();
        due("4 less again", x.life(0, 5), 4);
        x.day();
        due("and the last one", x.life(0, 5), 5);
    }

    // Promise 7: "Whether a PERSON may be another one": nobody himself, none who is barred, none who is not told.
    static void promise7OthersMayNot() {
        BorrowedLives x = town(SIX + "bar a f;bar f b;");
        due("barred", x.may(0, 5), false);
        due("the other way", x.may(5, 0), true);
        due("barred", x.may(5, 1), false);
        due("not barred", x.may(5, 4), true);
        for (int person = 0; person < 6; person++) {
            due("himself", x.may(person, person), false);
            due("beyond the last", x.may(person, 6), false);
            due("ahead of the first", x.may(person, -1), false);
            due("beyond the last", x.may(6, person), false);
            due("ahead of the first", x.may(-1, person), false);
        }
        due("nobody", new BorrowedLives().may(0, 1), false);
        due("a third of two", town(TWO).may(0, 2), false);
        due("two", town(TWO).may(0, 1), true);
    }

    // Promise 8: "HIDE (0 to 999): true; false: others": 0 and 999 can be, -1 and 1,000 can't, though the purse holds them.
    static void promise8Hides0To999() {
        BorrowedLives x = rich();
        due("it holds more", x.life(5, 0), 5994);
        leaves("1000", x, () -> yes(x.hide(5, 1000)), 0);
        leaves("5994", x, () -> yes(x.hide(5, 5994)), 0);
        leaves("-1", x, () -> yes(x.hide(5, -1)), 0);
        due("999", x.hide(5, 999), true);
        due("hidden", x.life(5, 3), 999);
        due("0", x.hide(5, 0), true);
        due("hidden", x.life(5, 3), 0);
        leaves("the least int", x, () -> yes(x.hide(5, Integer.MIN_VALUE)), 0);
        leaves("the greatest int", x, () -> yes(x.hide(5, Integer.MAX_VALUE)), 0);
    }

    // HIDE: "(it must have them)": all that its purse holds, not one more.
    static void promise8ItMustHaveThem() {
        BorrowedLives x = town(THREE);
        due("all 40", x.hide(1, 40), true);
        leaves("41", x, () -> yes(x.hide(1, 41)), 0);
        due("hidden stays", x.life(1, 3), 40);
        BorrowedLives poor = town(alike("a", 0));
        due("0 of 0", poor.hide(0, 0), true);
        leaves("1 of 0", poor, () -> yes(poor.hide(0, 1)), 0);
    }

    // HIDE: "in place of what was; they are in the purse": not added to what is hidden already.
    static void promise8InPlaceOfWhatWas() {
        BorrowedLives x = town(THREE);
        x.hide(1, 30);
        due("as much again", x.hide(1, 40), true);
        due("40, not 70", x.life(1, 3), 40);
        due("less", x.hide(1, 5), true);
        due("5", x.life(1, 3), 5);
        due("in the purse", x.life(1, 0), 40);
    }

    // HIDE: "at home"; Promise 8: "false: others, it can't be".
    static void promise8OnlyAtHome() {
        BorrowedLives x = town(THREE);
        leaves("beyond the last", x, () -> yes(x.hide(3, 0)), 0);
        leaves("ahead of the first", x, () -> yes(x.hide(-1, 0)), 0);
        due("the last", x.hide(2, 1), true);
        due("the first", x.hide(0, 1), true);
        x.lot(0);
        leaves("away", x, () -> yes(x.hide(0, 0)), 0);
        leaves("away", x, () -> yes(x.hide(0, 2)), 0);
        x.home();
        due("at home again", x.hide(0, 2), true);
        BorrowedLives nobody = new BorrowedLives();
        leaves("nobody", nobody, () -> yes(nobody.hide(0, 0)), 0);
    }

    // Promise 9: "LOT by a SEED (0 to 9999) ...; NONE: others".
    static void promise9SeedsAre0To9999() {
        BorrowedLives x = town(THREE);
        for (int seed : new int[] {-1, 10000, Integer.MIN_VALUE, Integer.MAX_VALUE}) {
            leaves("seed " + seed, x, () -> x.lot(seed), NONE);
        }
        due("seed 0", x.lot(0), 0);
        x.undo();
        due("seed 9999", x.lot(9999), 1);
    }

    // LOT: "at home, if there is any"; Promise 9: "it can't be, there is none".
    static void promise9AtHomeIfThereIsAny() {
        BorrowedLives x = town(TWO);
        due("the one", x.lot(5), 0);
        leaves("away", x, () -> x.lot(5), NONE);
        BorrowedLives alone = town(alike("a", 5));
        leaves("alone", alone, () -> alone.lot(5), NONE);
        BorrowedLives barred = town(TWO + "bar x y;");
        leaves("barred", barred, () -> barred.lot(5), NONE);
        BorrowedLives nobody = new BorrowedLives();
        leaves("nobody", nobody, () -> nobody.lot(5), NONE);
    }

    // A DRAW: "g becomes (g * 1103515245 + 12345) modulo 2147483648 (g is the SEED at first); it is g / 65536, cut, modulo m".
    static void promise9DrawsWrap() {
        // 0: 12,345, which is 0 of 65,536. 1: 1,103,527,590 is below the modulus: 16,838. 2: 2,207,042,835 is above it by
        // 59,559,187: 908. 9999: 277,963,676 is left: 4,241. Of these modulo 265.
        int[][] places = {{0, 0}, {1, 143}, {2, 113}, {9999, 1}};
        for (int[] place : places) {
            due("seed " + place[0], town(SIX).lot(place[0]), place[1]);
        }
        for (int seed = 0; seed < 300; seed++) {
            long g = (seed * 1103515245L + 12345) % 2147483648L;
            due("seed " + seed, town(FOUR).lot(seed), g / 65536 % 9);
        }
    }

    // LOTS "stand in the order of their rows": the first and the last one of six.
    static void promise9TheFirstAndTheLastLot() {
        BorrowedLives x = town(SIX);
        due("seed 0", x.lot(0), 0);
        int[] first = {1, 0, 3, 2, 5, 4};
        for (int life = 0; life < 6; life++) {
            due("the first row", x.life(life, 4), first[life]);
        }
        x.home();
        // 202: 1,719,276,091 is left, / 65536 is 26,234, of 265 that leaves 264.
        due("seed 202", x.lot(202), 264);
        for (int life = 0; life < 6; life++) {
            due("the last row", x.life(life, 4), 5 - life);
        }
    }

    // A LOT: "nobody his own, nobody one he is barred from, each just one": of every LOT there is.
    static void promise9NobodyHisOwn() {
        BorrowedLives x = town(FOUR + "bar a b;");
        for (int seed = 0; seed < 60; seed++) {
            x.lot(seed);
            int led = 0;
            for (int life = 0; life < 4; life++) {
                due("another one", x.life(life, 4) != life, true);
                led |= 1 << x.life(life, 4);
            }
            due("each just one", led, 15);
            due("a is barred from b's", x.life(1, 4) != 0, true);
            x.home();
        }
    }

    // Promise 10: "SWAP: true; false: others, the same, it can't be".
    static void promise10OthersAndTheSame() {
        BorrowedLives x = town(FOUR);
        x.lot(0);
        leaves("the same", x, () -> yes(x.swap(2, 2)), 0);
        leaves("beyond the last", x, () -> yes(x.swap(0, 4)), 0);
        leaves("beyond the last", x, () -> yes(x.swap(4, 0)), 0);
        leaves("ahead of the first", x, () -> yes(x.swap(-1, 0)), 0);
        leaves("ahead of the first", x, () -> yes(x.swap(0, -1)), 0);
        leaves("nobody twice", x, () -> yes(x.swap(-1, -1)), 0);
        due("the first and the last", x.swap(0, 3), true);
        due("his", x.life(2, 4), 0);
        due("and his", x.life(1, 4), 3);
        due("back", x.swap(3, 0), true);
        due("his", x.life(1, 4), 0);
    }

    // SWAP: "away".
    static void promise10OnlyAway() {
        BorrowedLives x = town(FOUR);
        leaves("at home", x, () -> yes(x.swap(0, 2)), 0);
        x.lot(0);
        due("away", x.swap(0, 2), true);
        x.home();
        leaves("at home again", x, () -> yes(x.swap(0, 2)), 0);
    }

    // SWAP: "if that is a LOT": neither of the two himself, neither one whom he is barred from.
    static void promise10OnlyIfThatIsALot() {
        // a leads b's, b a's, c d's, d c's.
        BorrowedLives x = town(FOUR);
        x.lot(0);
        leaves("each would be himself", x, () -> yes(x.swap(0, 1)), 0);
        due("a gets d's, c gets b's", x.swap(0, 2), true);
        leaves("c would be himself", x, () -> yes(x.swap(2, 3)), 0);
        leaves("d would be himself", x, () -> yes(x.swap(3, 0)), 0);
        for (String bar : new String[] {"bar a d;", "bar c b;"}) {
            BorrowedLives y = town(FOUR + bar);
            y.lot(0);
            due("the first row", y.person(0, 2), 1);
            leaves(bar, y, () -> yes(y.swap(0, 2)), 0);
            leaves(bar, y, () -> yes(y.swap(2, 0)), 0);
        }
        BorrowedLives z = town(FOUR + "bar d a;bar b c;");
        z.lot(0);
        due("other bars don't matter", z.swap(0, 2), true);
    }

    // Promise 11: "A DAY: how many there were since the LOT; NONE: at home, there were 7" (A DAY: "away, 7 at most").
    static void promise11SevenDaysAtMost() {
        BorrowedLives x = town(FOUR);
        leaves("at home", x, () -> x.day(), NONE);
        x.lot(0);
        for (int day = 1; day <= 7; day++) {
            due("day", x.day(), day);
            due("a swap is no day", x.swap(0, 2), true);
        }
        leaves("an eighth", x, () -> x.day(), NONE);
        x.undo();
        x.undo();
        due("the seventh once more", x.day(), 7);
        leaves("an eighth", x, () -> x.day(), NONE);
        x.home();
        leaves("at home", x, () -> x.day(), NONE);
        x.lot(0);
        due("since the LOT", x.day(), 1);
    }

    // A DAY: "spends the E of spends (0 at least, ...)".
    static void promise11Spends0AtLeast() {
        due("0", spent("plain", 30, 0, "0", 50), 0);
        due("1", spent("plain", 30, 0, "1", 50), 1);
        due("-1", spent("plain", 30, 0, "0-1", 50), 0);
        due("the least int", spent("plain", 30, 0, MAX + "+1", 50), 0);
        due("a thief", spent("thief", 30, 0, "0-1", 50), 0);
        due("a miser", spent("miser", 30, 0, "0-2", 50), 0);
        due("a mayor", spent("mayor", 30, 0, "0-1", 50), 0);
    }

    // A DAY: "spends ... (..., sign at most, ...)".
    static void promise11SpendsSignAtMost() {
        due("below", spent("plain", 30, 0, "4", 5), 4);
        due("at it", spent("plain", 30, 0, "5", 5), 5);
        due("above", spent("plain", 30, 0, "6", 5), 5);
        due("the greatest int", spent("plain", 30, 0, MAX, 5), 5);
        due("0 may be signed for", spent("plain", 30, 0, "6", 0), 0);
        due("999 may be", spent("plain", 999, 0, "9999", 999), 999);
        due("998 may be", spent("plain", 999, 0, "9999", 998), 998);
        due("a thief", spent("thief", 30, 0, "6", 5), 5);
        due("50 untold", 99 - behindADay(pair("plain", 99, 0, 5) + "spends able*51;").life(0, 0), 50);
        due("49 untold", 99 - behindADay(pair("plain", 99, 0, 5) + "spends able*49;").life(0, 0), 49);
    }

    // A DAY: "spends ... (..., no more than money; ...)", money being "the LIFE's purse less what is hidden of it".
    static void promise11SpendsNoMoreThanMoney() {
        due("less", spent("plain", 30, 0, "29", 50), 29);
        due("all", spent("plain", 30, 0, "30", 50), 30);
        due("more", spent("plain", 30, 0, "31", 50), 30);
        due("of what is not hidden", spent("plain", 30, 28, "1", 50), 1);
        due("of what is not hidden", spent("plain", 30, 28, "2", 50), 2);
        due("of what is not hidden", spent("plain", 30, 28, "3", 50), 2);
        due("all is hidden", spent("plain", 30, 30, "3", 50), 0);
        due("an empty purse", spent("plain", 0, 0, "3", 50), 0);
    }

    // HIDE: "only a thief finds and spends them": nobody of another kind does.
    static void promise11OnlyAThiefFindsThem() {
        for (String kind : new String[] {"plain", "miser", "mayor"}) {
            due(kind + " finds none", spent(kind, 30, 30, "9", 50), 0);
            due(kind + " counts none", spent(kind, 30, 28, "money=2", 50), kind.equals("miser") ? 0 : 1);
            due(kind + " finds 2", spent(kind, 30, 28, "9", 50), kind.equals("miser") ? 1 : 2);
        }
        due("a thief finds all", spent("thief", 30, 30, "9", 50), 9);
        due("a thief finds all", spent("thief", 30, 28, "money=30", 50), 1);
    }

    // E: "money ..., owed (its debt), neat (its home); ... able (the skill of who leads it ...), trade (his kind: 0 ... 3)".
    static void promise11FactsOfWhoLeadsIt() {
        String[] kinds = {"plain", "miser", "thief", "mayor"};
        for (int kind = 0; kind < 4; kind++) {
            String facts = "(money=90)*(owed=7)*(neat=4)*(able=3)*(trade=" + kind + ")";
            String two = person("a", kinds[3 - kind], 8, 90, 7, 4) + person("b", kinds[kind], 3, 0, 0, 5);
            BorrowedLives x = behindADay(two + "spends " + facts + "*4;mends 0;");
            due("spent by " + kinds[kind], x.life(0, 0), kind == 1 ? 88 : 86);
            BorrowedLives y = behindADay(two + "spends 0;mends " + facts + "*2;");
            due("mended by " + kinds[kind], y.life(0, 2), 6);
            due("not by the other one", y.life(1, 2), 5);
        }
    }

    // A DAY: "a miser half of that, cut": of what is left by sign and money.
    static void promise11AMiserSpendsHalf() {
        due("of 0", spent("miser", 30, 0, "0", 50), 0);
        due("of 1", spent("miser", 30, 0, "1", 50), 0);
        due("of 2", spent("miser", 30, 0, "2", 50), 1);
        due("of 3", spent("miser", 30, 0, "3", 50), 1);
        due("of sign", spent("miser", 30, 0, "99", 7), 3);
        due("of the purse", spent("miser", 9, 0, "99", 50), 4);
        due("of what is not hidden", spent("miser", 30, 25, "99", 50), 2);
        due("others all", spent("mayor", 30, 0, "3", 50), 3);
    }

    // A DAY: "a thief's goes to his own LIFE's purse", whoever is poorest; E: "by a thief all of its purse".
    static void promise11AThiefsGoesToHisOwn() {
        // b leads a's LIFE, c b's, a c's.
        String others = person("a", "plain", 0, 30, 0, 5) + "%s" + person("c", "plain", 0, 0, 0, 5) + "spends able*4;mends 0;";
        duePurses(behindADay(others.replace("%s", person("b", "thief", 1, 9, 0, 5))), 26, 13, 0);
        duePurses(behindADay(others.replace("%s", person("b", "plain", 1, 9, 0, 5))), 26, 9, 4);
        due("he finds what is hidden", spent("thief", 30, 30, "4", 50), 4);
        due("all of it, not more", spent("thief", 30, 30, "31", 50), 30);
        due("all of it but one", spent("thief", 30, 30, "29", 50), 29);
        due("he counts all as money", spent("thief", 30, 12, "money", 50), 30);
        due("nobody else does", spent("plain", 30, 12, "money", 50), 18);
    }

    // E: "money (the LIFE's purse less what is hidden of it, 0 at least; ...)": a thief took what is hidden, then another one leads it.
    static void promise11MoneyIs0AtLeast() {
        // b, a thief, leads a's LIFE for a DAY; then d does, and c's is b's.
        BorrowedLives x = town(person("a", "plain", 0, 30, 0, 5) + person("b", "thief", 1, 0, 0, 5) + person("c", "plain", 0, 0, 0, 5)
                + person("d", "plain", 2, 0, 0, 5) + "spends (able=1)*9;mends (able=2)*((money<0)*(0-2)+(money=0)*3);");
        x.hide(0, 30);
        x.lot(0);
        x.day();
        due("21 are left of 30 hidden", x.life(0, 0), 21);
        due("b does not mend", x.life(0, 2), 5);
        due("they change", x.swap(1, 3), true);
        x.day();
        due("d finds 0, not -9", x.life(0, 2), 8);
        BorrowedLives good = town(pair("thief", 30, 0, 5) + "spends able*9;mends 0;good money;");
        good.hide(0, 22);
        good.lot(0);
        good.day();
        due("of good, too: 21 less 22", good.deeds(0, 0, 1, NONE), 0);
    }

    // A DAY: "of a mayor's first the LIFE's debt is paid, as far as there is one; all else goes" on.
    static void promise11AMayorPaysFirst() {
        int[][] cases = {{0, 0, 4}, {3, 0, 1}, {4, 0, 0}, {5, 1, 0}};
        for (int[] c : cases) {
            BorrowedLives x = behindADay(pair("mayor", 30, c[0], 5) + "spends able*4;mends 0;");
            due("spent", x.life(0, 0), 26);
            due("debt of " + c[0], x.life(0, 1), c[1]);
            due("the rest", x.life(1, 0), c[2]);
        }
        for (String kind : new String[] {"plain", "miser", "thief"}) {
            BorrowedLives x = behindADay(pair(kind, 30, 3, 5) + "spends able*4;mends 0;");
            due("no " + kind + " pays", x.life(0, 1), 3);
        }
    }

    // A DAY: "to the purse of the poorest other LIFE (the least purse now, of equal ones the first; ...)".
    static void promise11ToThePoorestOther() {
        String spends = "spends able*3;mends 0;";
        int[][] cases = {{9, 5, 4, 2}, {9, 4, 5, 1}, {9, 5, 5, 1}, {3, 5, 5, 1}, {3, 6, 5, 2}};
        for (int[] c : cases) {
            BorrowedLives x = behindADay(person("a", "plain", 0, c[0], 0, 5) + person("b", "plain", 1, c[1], 0, 5)
                    + person("c", "plain", 0, c[2], 0, 5) + spends);
            duePurses(x, c[0] - 3, c[1] + (c[3] == 1 ? 3 : 0), c[2] + (c[3] == 2 ? 3 : 0));
        }
        // The last LIFE spends: of the equal others the first gets it.
        duePurses(behindADay(person("a", "plain", 1, 5, 0, 5) + person("b", "plain", 0, 5, 0, 5) + person("c", "plain", 0, 9, 0, 5) + spends),
                8, 5, 6);
        // Now: LIFE 0's 3 went to LIFE 1 (4 to 7), its 3 go to LIFE 0 (3 then), LIFE 2's to LIFE 1 (4 then, LIFE 0 holds 6).
        duePurses(behindADay(person("a", "plain", 1, 6, 0, 5) + person("b", "plain", 1, 4, 0, 5) + person("c", "plain", 1, 5, 0, 5) + spends),
                6, 7, 2);
    }

    // A DAY: "(...; 9,999 at most, the rest is lost; ...)": six purses hold 5,994 at most, of which none is lost.
    static void promise11NothingIsLostBelow9999() {
        BorrowedLives x = rich();
        duePurses(x, 0, 0, 0, 0, 0, 5994);
        due("of all", x.count(7), 5994);
        BorrowedLives y = town(person("a", "plain", 0, 999, 0, 5) + person("b", "plain", 1, 999, 0, 5) + "spends able*999;mends 0;sign 999;");
        y.lot(0);
        y.day();
        duePurses(y, 0, 1998);
    }

    // A DAY: "(...; if there is no other, all is lost)": who is alone can't be away, so that no DAY comes.
    static void promise11WhoIsAloneHasNoDay() {
        BorrowedLives x = town(person("a", "plain", 9, 999, 0, 5));
        leaves("no lot", x, () -> x.lot(1), NONE);
        leaves("no day", x, () -> x.day(), NONE);
        due("years leave the purse", x.years(1, 20, 2), 999);
        BorrowedLives two = behindADay(TWO);
        due("by two there is another", two.count(7), 50 - 3);
    }

    // A DAY: "its home is better by the E of mends ... (-3 to 3; ...)".
    static void promise11MendsMinus3To3() {
        int[][] cases = {{2, 6}, {3, 7}, {4, 7}, {9999, 7}};
        for (int[] c : cases) {
            due("4 and " + c[0], mended(4, String.valueOf(c[0])), c[1]);
        }
        int[][] below = {{1, 4}, {2, 3}, {3, 2}, {4, 2}, {9999, 2}};
        for (int[] c : below) {
            due("5 less " + c[0], mended(5, "0-" + c[0]), c[1]);
        }
        due("0", mended(5, "0"), 5);
        due("the greatest int", mended(4, MAX), 7);
        due("the least int", mended(5, MAX + "+1"), 2);
    }

    // A DAY: "its home is better ... (...; 0 to 9)".
    static void promise11HomesAre0To9() {
        due("5 and 3", mended(5, "3"), 8);
        due("6 and 3", mended(6, "3"), 9);
        due("7 and 3", mended(7, "3"), 9);
        due("9 and 1", mended(9, "1"), 9);
        due("4 less 3", mended(4, "0-3"), 1);
        due("3 less 3", mended(3, "0-3"), 0);
        due("2 less 3", mended(2, "0-3"), 0);
        due("0 less 1", mended(0, "0-1"), 0);
        due("0 and 0", mended(0, "0"), 0);
        due("9 and 0", mended(9, "0"), 9);
    }

    // A DAY: "by how it is then": mends knows the purse and the debt as spending left them, and its own SELF.
    static void promise11MendsByHowItIsThen() {
        BorrowedLives x = behindADay(pair("mayor", 5, 3, 5) + "spends able*(money+owed=8)*5;mends able*((money=0)+(owed=0));");
        due("all is spent, all is paid", x.life(0, 2), 7);
        BorrowedLives y = behindADay(pair("mayor", 5, 3, 5) + "spends able*(money+owed=8)*4;mends able*((money=0)+(owed=0));");
        due("a coin is left", y.life(0, 2), 6);
        BorrowedLives z = behindADay(pair("mayor", 5, 3, 5) + "spends able*(money+owed=8)*2;mends able*((money=0)+(owed=0));");
        due("a debt is left, too", z.life(0, 2), 5);
        BorrowedLives thief = town(pair("thief", 5, 0, 5) + "spends 0;mends able*(money=5);");
        thief.hide(0, 5);
        thief.lot(0);
        thief.day();
        due("a thief finds all by mends, too", thief.life(0, 2), 6);
    }

    // E: "Without spends: able * 2".
    static void promise11SpendsUntold() {
        int[][] cases = {{0, 0}, {1, 2}, {4, 8}, {9, 18}};
        for (int[] c : cases) {
            BorrowedLives x = behindADay(person("a", "plain", 0, 90, 0, 5) + person("b", "plain", c[0], 0, 0, 5));
            due("skill " + c[0], 90 - x.life(0, 0), c[1]);
        }
    }

    // E: "without mends: 1 if able is above 4, -1 if it is below 3, else 0".
    static void promise11MendsUntold() {
        int[][] cases = {{0, 4}, {2, 4}, {3, 5}, {4, 5}, {5, 6}, {9, 6}};
        for (int[] c : cases) {
            BorrowedLives x = behindADay(person("a", "plain", 0, 90, 0, 5) + person("b", "plain", c[0], 0, 0, 5));
            due("skill " + c[0], x.life(0, 2), c[1]);
        }
    }

    // Promise 12: "HOME: the HARM of all; NONE: at home" (By hand: "HOME, away: all are at home, nothing is hidden").
    static void promise12HomeOnlyFromAway() {
        BorrowedLives x = town(TWO);
        leaves("at home", x, () -> x.home(), NONE);
        x.hide(0, 3);
        x.hide(1, 4);
        x.lot(0);
        x.day();
        due("hidden, away", x.life(0, 3) + x.life(1, 3), 7);
        due("harm of both", x.home(), x.count(6));
        due("nothing is hidden", x.life(0, 3) + x.life(1, 3), 0);
        due("at home", x.count(3), 0);
        due("himself", x.life(0, 4), 0);
        due("himself", x.life(1, 4), 1);
        leaves("at home again", x, () -> x.home(), NONE);
        BorrowedLives nobody = new BorrowedLives();
        leaves("nobody", nobody, () -> nobody.home(), NONE);
    }

    // "By HOME the HARM of all is added": 0, too, which is a HOME none the less; without HOME none is.
    static void promise12HarmIsAddedByHome() {
        BorrowedLives x = town(TWO);
        x.lot(0);
        due("no day, no harm", x.home(), 0);
        due("a home", x.count(5), 1);
        due("no harm", x.count(6), 0);
        x.lot(0);
        x.day();
        due("not added yet", x.count(6), 0);
        due("5 and 3", x.home(), 8);
        due("added", x.count(6), 8);
        x.lot(0);
        x.day();
        due("5 and 6", x.home(), 11);
        due("added", x.count(6), 19);
        due("homes", x.count(5), 3);
    }

    // Promise 13: "UNDO: true; false: nothing can be": at first, behind the last one, behind a TOWN.
    static void promise13NothingCanBeUndone() {
        BorrowedLives x = new BorrowedLives();
        leaves("nobody", x, () -> yes(x.undo()), 0);
        BorrowedLives y = town(TWO);
        leaves("at first", y, () -> yes(y.undo()), 0);
        y.hide(0, 5);
        due("one", y.undo(), true);
        leaves("no more", y, () -> yes(y.undo()), 0);
        y.hide(0, 5);
        feed(y, TWO);
        y.town();
        leaves("another TOWN", y, () -> yes(y.undo()), 0);
    }

    // "UNDO: these, the last 16, one by one": 16 of 16, but 16 of 17.
    static void promise13TheLast16() {
        for (int made = 15; made < 40; made++) {
            BorrowedLives x = town(TWO);
            for (int coins = 1; coins <= made; coins++) {
                x.hide(0, coins % 30);
            }
            int can = made < 16 ? made : 16;
            due("can be undone of " + made, x.count(11), can);
            for (int undone = 1; undone <= can; undone++) {
                due("undo", x.undo(), true);
                due("one by one", x.life(0, 3), (made - undone) % 30);
                due("left", x.count(11), can - undone);
            }
            due("no more", x.undo(), false);
            due("stays", x.life(0, 3), (made - can) % 30);
        }
    }

    // "UNDO: these": HIDE, LOT, SWAP, DAY, HOME, each as it was ahead.
    static void promise13EachOfTheseIsUndone() {
        BorrowedLives x = town(FOUR);
        String atFirst = look(x);
        x.hide(0, 9);
        String hidden = look(x);
        x.lot(0);
        String away = look(x);
        x.swap(0, 2);
        String swapped = look(x);
        x.day();
        String day = look(x);
        x.home();
        String[] ahead = {day, swapped, away, hidden, atFirst};
        for (String due : ahead) {
            due("undo", x.undo(), true);
            due("as it was", look(x), due);
        }
        x.lot(0);
        x.day();
        due("days go on from there", x.day(), 2);
    }

    // "UNDO: these": HARM is again since the LOT of then, and what is foreseen is as it was.
    static void promise13HarmIsOfTheLotOfThen() {
        BorrowedLives x = town(THREE);
        x.lot(0);
        x.day();
        String away = look(x);
        String foreseen = foresee(x);
        x.day();
        x.home();
        String home = look(x);
        String foreseenAtHome = foresee(x);
        due("otherwise", foreseenAtHome.equals(foreseen), false);
        x.hide(0, 30);
        x.lot(1);
        x.day();
        for (int i = 0; i < 3; i++) {
            due("undo", x.undo(), true);
        }
        due("at home", look(x), home);
        due("foreseen at home", foresee(x), foreseenAtHome);
        x.undo();
        due("harm of two days", x.life(0, 5) > 0, true);
        x.undo();
        due("away", look(x), away);
        due("foreseen away", foresee(x), foreseen);
    }

    // "UNDO: these": what can't be is nothing to undo, nor are a TALE, a YEAR, a MARK.
    static void promise13OnlyWhatWasDone() {
        BorrowedLives x = town(TWO);
        for (int coins = 1; coins <= 16; coins++) {
            x.hide(0, coins);
        }
        leaves("hide", x, () -> yes(x.hide(0, 31)), 0);
        leaves("lot", x, () -> x.lot(10000), NONE);
        leaves("swap", x, () -> yes(x.swap(0, 1)), 0);
        leaves("day", x, () -> x.day(), NONE);
        leaves("home", x, () -> x.home(), NONE);
        x.tale(0, 1, 5);
        year(x, "day;");
        x.mark(0, false);
        due("16 still", x.count(11), 16);
        for (int coins = 15; coins >= 0; coins--) {
            due("undo", x.undo(), true);
            due("the last but one", x.life(0, 3), coins);
        }
        due("the TALE stays", x.count(10), 1);
        due("the YEAR stays", x.count(9), 1);
    }

    // Promise 14: "what 0 ..., 1 ..., 2 ...; -2: others".
    static void promise14OthersAreMinus2() {
        BorrowedLives x = town(TWO);
        year(x, "lot 0;day;home;home;");
        due("-1", x.judged(-1), OTHERS);
        due("0", x.judged(0), 3);
        due("1", x.judged(1), 1);
        due("2", x.judged(2), 8);
        due("3", x.judged(3), OTHERS);
        due("the least int", x.judged(Integer.MIN_VALUE), OTHERS);
    }

    // JUDGED: "the first line (from 0) that can't be"; Promise 14: "(NONE: all can)".
    static void promise14TheFirstLineThatCantBe() {
        BorrowedLives x = town(TWO);
        due("no YEAR", x.judged(0), NONE);
        due("no homes", x.judged(1), 0);
        due("no harm", x.judged(2), 0);
        String[] years = {"day;", "lot 1;day;", "hide x 30;", "hide x 31;", "lot 1;hide x 1;", "lot 1;lot 1;", "swap x y;",
            "lot 1;swap x y;", "home;", "lot 1;home;home;", "lot 1;" + "day;".repeat(7), "lot 1;" + "day;".repeat(8) + "home;home;",
            "lot 9999;home;lot 0;home;day;", "day;".repeat(40), "lot 1;home;".repeat(20)};
        int[] first = {0, NONE, NONE, 0, 1, 1, 0, 1, 0, 2, NONE, 8, 4, 0, NONE};
        for (int i = 0; i < years.length; i++) {
            year(x, years[i]);
            due(years[i], x.judged(0), first[i]);
        }
        year(x, "lot 1;home;".repeat(19) + "lot 1;lot 1;");
        due("the last of 40", x.judged(0), 39);
        due("19 homes", x.judged(1), 19);
        BorrowedLives alone = town(alike("a", 5));
        year(alone, "hide a 5;lot 1;");
        due("there is no LOT", alone.judged(0), 1);
    }

    // JUDGED: "(lines that can't be are left out)": the rest goes on; none of them is one of the 7 DAYS.
    static void promise14LinesThatCantBeAreLeftOut() {
        BorrowedLives x = town(TWO);
        year(x, "day;swap x y;home;hide x 31;lot 0;lot 0;hide x 30;day;home;home;");
        due("the first", x.judged(0), 0);
        due("one home", x.judged(1), 1);
        due("one day", x.judged(2), 8);
        BorrowedLives y = town(pair("plain", 90, 0, 5) + "spends able*3;mends 0;");
        for (int days = 5; days < 11; days++) {
            year(y, "lot 0;" + "day;".repeat(days) + "home;");
            due("7 at most of " + days, y.judged(2), 3 * Math.min(7, days));
        }
    }

    // JUDGED: "the YEAR from the begin": not from how it is now, which stays as it is.
    static void promise14FromTheBegin() {
        BorrowedLives x = town(TWO);
        year(x, "lot 0;day;home;");
        due("harm", x.judged(2), 8);
        x.hide(0, 28);
        due("hidden now", x.judged(2), 8);
        x.lot(0);
        x.day();
        leaves("away now", x, () -> x.judged(2), 8);
        leaves("away now", x, () -> x.judged(0), NONE);
        x.home();
        leaves("home now", x, () -> x.judged(1), 1);
        leaves("home now", x, () -> x.judged(2), 8);
    }

    // YEAR: "hide NAME N ; lot N ; swap NAME NAME": each line is lived with its own PEOPLE, coins and SEED.
    static void promise14EachLineWithItsOwn() {
        BorrowedLives x = town(THREE);
        String[] hides = {"hide ann 100;", "hide ann 101;", "hide bob 40;", "hide bob 41;", "hide cid 10;", "hide cid 11;"};
        for (int i = 0; i < hides.length; i++) {
            year(x, hides[i]);
            due(hides[i], x.judged(0), i % 2 == 0 ? NONE : 0);
        }
        BorrowedLives y = town(pair("plain", 30, 0, 5) + person("c", "plain", 0, 0, 0, 5) + "spends able;mends 0;");
        for (int seed = 0; seed < 8; seed++) {
            year(y, "lot " + seed + ";day;home;");
            int place = y.lot(seed);
            y.undo();
            due("by seed " + seed + " b leads LIFE 0 or 2", y.judged(2), place == 0 ? 1 : 0);
        }
        // a leads b's, b a's, c d's, d c's.
        BorrowedLives four = town(FOUR);
        String[] swaps = {"a c", "a b", "c b", "d c", "b d", "d a"};
        int[] first = {NONE, 1, NONE, 1, NONE, NONE};
        for (int i = 0; i < swaps.length; i++) {
            year(four, "lot 0;swap " + swaps[i] + ";");
            due("swap " + swaps[i], four.judged(0), first[i]);
        }
    }

    // JUDGED: "HARM added in all": of each HOME, not of DAYS without one.
    static void promise14HarmIsOfHomes() {
        BorrowedLives x = town(TWO);
        year(x, "lot 0;day;day;");
        due("no home", x.judged(1), 0);
        due("no harm", x.judged(2), 0);
        year(x, "lot 0;day;home;lot 0;day;home;lot 0;day;");
        due("two homes", x.judged(1), 2);
        due("8 and 11", x.judged(2), 19);
    }
}
