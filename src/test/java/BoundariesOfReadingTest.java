/**
 * Each sentence on reading that names a boundary, on both of its sides: promises 1 to 4 with the Terms that they use
 * (TAPE, TOKENS, TOWN, YEAR, NAME, E, FAULTS). Each test's first comment tells the sentence.
 */
public final class BoundariesOfReadingTest extends Check {
    static final String[] RESERVED = {"person", "skill", "purse", "debt", "home", "bar", "sign", "spends", "mends", "good",
        "wish", "hide", "lot", "swap", "day", "plain", "miser", "thief", "mayor", "not", "and", "or"};
    static final String[] FACTS = {"money", "owed", "neat", "able", "trade"};
    /** The greatest int, as an E: 2,099,580,021 + 47,895,210 + 8,416. */
    static final String MAX = "9999*9999*21+9999*4790+8416";
    static final String BLANKS_24 = " ".repeat(24);

    public static void main(String[] args) {
        runAll(BoundariesOfReadingTest.class, 1, 4);
    }

    static int readTown(String text) {
        BorrowedLives x = new BorrowedLives();
        feed(x, text);
        return x.town();
    }

    static int readYear(String text) {
        BorrowedLives x = town(TWO);
        feed(x, text);
        return x.year();
    }

    /** What an E comes to where money is 7, owed 0 and neat 9: of that LIFE no deed of skill 0 changes anything. */
    static int valueOf(String e) {
        return town(person("a", "plain", 0, 7, 0, 9) + "good " + e + ";").deeds(0, 0, 1, NONE);
    }

    static void dueOf(String e, int want) {
        due(e, valueOf(e), want);
    }

    /** One to whom all happened that can: away, hidden, harmed, a YEAR, a TALE, a MARK, something to undo. */
    static BorrowedLives busy() {
        BorrowedLives x = town(TWO + "bar x y;bar y x;");
        due("two who may not be one another", x.lots(), 0);
        feed(x, TWO + "sign 49;");
        due("told", x.town(), 0);
        year(x, "day;home;");
        x.lot(0);
        x.day();
        x.home();
        x.hide(0, 7);
        x.mark(2, false);
        x.tale(0, 1, 1);
        x.lot(0);
        x.day();
        return x;
    }

    // The public face: "public static final int NONE = -1".
    static void promise1NoneIsMinusOne() {
        due("NONE", BorrowedLives.NONE, -1);
    }

    // Promise 1: "Nobody." (and the Terms: "At first: nobody.", "sign (50)").
    static void promise1ANewObjectHasNobody() {
        BorrowedLives x = new BorrowedLives();
        due("a new object", look(x), "0 0 50 0 0 0 0 0 0 0 0 0 0 ");
        due("person", x.person(0, 0), NONE);
        due("life", x.life(0, 0), NONE);
        due("with one it is there", town(alike("a", 1)).person(0, 0), 0);
    }

    // "An object is used for at most 512 calls after it has been made": the 512th is still answered.
    static void promise1The512thCallIsAnswered() {
        BorrowedLives x = new BorrowedLives();
        feed(x, TWO);
        due("town", x.town(), 0);
        // The feeding looked once at how many signs there are; the town is one call more.
        int made = 1 + (TWO.length() + 23) / 24 + 1;
        for (boolean hides = true; made < 511; made++) {
            due("call " + made, hides ? x.hide(0, 9) : x.undo(), true);
            hides = !hides;
        }
        due("the 512th", x.lot(0), 0);
    }

    // Promise 2: "Up to 24 signs come behind the TAPE: ... how many there are."
    static void promise2UpTo24SignsCome() {
        BorrowedLives x = new BorrowedLives();
        due("none", x.feed(0L, 0L, 0L), 0);
        due("24", x.feed(0x2020202020202020L, 0x2020202020202020L, 0x2020202020202020L), 24);
        due("behind them", x.feed(0x20L, 0x2000000000000000L, 0x20L), 27);
    }

    // Promise 2: "the bytes of a, b, c, of each the highest first": the first and the last byte of each count in their order.
    static void promise2TheHighestByteIsFirst() {
        BorrowedLives x = new BorrowedLives();
        due("si gn 12 3;", x.feed(0x7300000000000069L, 0x670000000000006eL, 0x2000000031320000L), 7);
        due("the last in its lowest byte", x.feed(0x33L, 0L, 0x3bL), 9);
        due("sign 123;", x.town(), 0);
        due("in that order", x.count(2), 123);
    }

    // Promise 2: "others than 10 and 32 .. 126 ... are left out".
    static void promise2OnlyTenAnd32To126Come() {
        for (int sign = 0; sign < 256; sign++) {
            int comes = sign == 10 || sign >= 32 && sign <= 126 ? 1 : 0;
            BorrowedLives x = new BorrowedLives();
            due("highest " + sign, x.feed((long) sign << 56, 0L, 0L), comes);
            due("lowest " + sign, x.feed(0L, 0L, sign), 2 * comes);
            due("in the middle " + sign, x.feed(0L, (long) sign << 24, 0L), 3 * comes);
        }
        due("all 255", new BorrowedLives().feed(-1L, -1L, -1L), 0);
    }

    // Promise 2: "what is beyond 1,000 [is] left out" (TAPE: "at most 1,000 signs"): the 1,000th comes, the 1,001st does not.
    static void promise2The1001stSignIsLeftOut() {
        BorrowedLives x = new BorrowedLives();
        feed(x, " ".repeat(993));
        due("999", feed(x, "sign 7"), 999);
        due("1,000", x.feed(0x3b00000000000000L, 0L, 0L), 1000);
        due("no more", x.feed(0x7878787878787878L, 0L, 0L), 1000);
        due("the 1,000th counts, what is behind does not", x.town(), 0);
        due("read", x.count(2), 7);
        feed(x, " ".repeat(994));
        due("; is the 1,001st", feed(x, "sign 8;"), 1000);
        due("; is left out: the end is wrong", x.town(), KIND_CANT + 16 * 1000);
        due("not read", x.count(2), 7);
    }

    // Promise 2: "what is beyond 1,000 [is] left out": of one feed those ahead of it come, those behind it do not.
    static void promise2AFeedAcrossThe1000thIsCut() {
        BorrowedLives x = new BorrowedLives();
        for (int i = 0; i < 41; i++) {
            feed(x, BLANKS_24);
        }
        due("984", x.count(12), 984);
        due("16 of 24", feed(x, "       sign 77;sign 88;;"), 1000);
        due("cut behind the 15th", x.town(), KIND_CANT + 16 * 999);
        due("the first 16 came", readTown(" ".repeat(984) + "        sign 77;sign 88;"), 0);
    }

    // TAPE: "what reads it takes it: it is empty then": by town and year, with a FAULT and without.
    static void promise2WhatReadsTheTapeTakesIt() {
        BorrowedLives x = new BorrowedLives();
        feed(x, "sign 7;");
        due("it is not read yet", x.count(12), 7);
        x.judged(0);
        x.lots();
        due("nothing else takes it", x.count(12), 7);
        due("town", x.town(), 0);
        due("empty", x.count(12), 0);
        due("an empty one is a TOWN of nobody", x.town(), 0);
        feed(x, "day;");
        due("a faulty town", x.town(), KIND_CANT);
        due("empty", x.count(12), 0);
        feed(x, "day;");
        due("year", x.year(), 0);
        due("empty", x.count(12), 0);
        feed(x, "sign 7;");
        due("a faulty year", x.year(), KIND_CANT);
        due("empty", x.count(12), 0);
        due("from 0 again", feed(x, "x"), 1);
    }

    // TOKENS: "each as long as can be".
    static void promise3TokensAreAsLongAsCanBe() {
        due("999 is one", town("sign 999;").count(2), 999);
        townFault(KIND_CANT, "", "signs 5;");
        townFault(KIND_CANT, "sign 5 ", "0;");
        due("persons is a NAME", town("person persons plain skill 1 purse 1 debt 1 home 1;").count(0), 1);
        due("notable is no not", readTown("person notable plain skill 1 purse 1 debt 1 home 1;"), 0);
        townFault(KIND_CANT, "wish ", "notable;");
        due("not able", readTown("wish not able;"), 0);
    }

    // TOKENS: "blanks (10, 32) between where one likes": none, one, many of each, ahead of all and behind all.
    static void promise3BlanksBetweenAsOneLikes() {
        String wide = "\n person\na\n\nplain \n skill\n3 purse\n 4 debt 5 \n\n home 6\n ; sign  \n 8 ; \n\n";
        String narrow = "person a plain skill 3purse 4debt 5home 6;sign 8;";
        for (String text : new String[] {wide, narrow}) {
            BorrowedLives x = town(text);
            due("skill", x.person(0, 1), 3);
            due("home", x.life(0, 2), 6);
            due("sign", x.count(2), 8);
        }
        due("digits behind letters", readTown("sign8;"), 0);
        due("blanks alone", readTown(" \n \n"), 0);
        due("E without a blank", readTown("spends(1)*money<2-not 3;"), 0);
        due("E with blanks", readTown("spends ( 1 )\n* money < 2 -\nnot 3 ;"), 0);
    }

    // TOKENS: "blanks (10, 32) between": a blank parts WORDS and NUMBERS.
    static void promise3ABlankParts() {
        townFault(KIND_CANT, "", "si gn 5;");
        townFault(KIND_CANT, "sign 1\n", "2;");
        townFault(KIND_CANT, "", "si\ngn 5;");
    }

    // TOKENS: "WORDS (letters a .. z, ...)": a and z are letters, what is ahead of and behind them is none.
    static void promise3WordsAreOfLettersAToZ() {
        for (char letter = 'a'; letter <= 'z'; letter++) {
            due("name " + letter, readTown(alike(String.valueOf(letter), 1)), 0);
        }
        for (String none : new String[] {"`", "{", "A", "Z", "@", "["}) {
            townFault(KIND_CANT, "person ", none + " plain skill 1");
            townFault(KIND_CANT, "person a", none + " plain skill 1");
        }
    }

    // TOKENS: "WORDS (..., 8 at most)", "a longer WORD ... at its first sign[] is none".
    static void promise3AWordHas8LettersAtMost() {
        due("8", readTown(alike("abcdefgh", 1)), 0);
        townFault(KIND_CANT, "person ", "abcdefghi plain skill 1");
        townFault(KIND_CANT, "person ", "abcdefghijklmnopq plain skill 1");
        townFault(KIND_CANT, TWO + "bar ", "abcdefghi x;");
        townFault(KIND_NOBODY, TWO + "bar ", "abcdefgh x;");
        due("all 8 count", town(alike("abcdefgh", 1) + alike("abcdefgi", 1) + alike("bbcdefgh", 1)).count(0), 3);
    }

    // TOKENS: "NUMBERS (1 to 4 digits; ...)", "a longer ... NUMBER ... at its first sign[] is none".
    static void promise3ANumberHas4DigitsAtMost() {
        due("1", town("sign 9;").count(2), 9);
        due("4", town("sign 0009;").count(2), 9);
        townFault(KIND_CANT, "sign ", "00009;");
        townFault(KIND_CANT, "sign ", "123456789;");
        dueOf("9999", 9999);
        townFault(KIND_CANT, "good ", "10000;");
        townFault(KIND_CANT, "good 1+", "00000;");
        due("0 and 9 are digits", town("sign 90;").count(2), 90);
        townFault(KIND_CANT, "sign 1", "/;");
        townFault(KIND_CANT, "sign 1", ":;");
        townFault(KIND_CANT, "sign ", "/;");
        townFault(KIND_CANT, "sign ", ":;");
    }

    // TOKENS: "a letter may stand right behind [a NUMBER]".
    static void promise3ALetterMayStandRightBehindANumber() {
        BorrowedLives x = town("person a plain skill 9purse 999debt 0998home 7;");
        due("skill", x.person(0, 1), 9);
        due("purse", x.life(0, 0), 999);
        due("debt", x.life(0, 1), 998);
        dueOf("3and 4", 1);
        townFault(KIND_CANT, "sign 5", "x;");
        townFault(KIND_CANT, "sign ", "12345x;");
    }

    // TOKENS: "the signs ( ) < = + - * ;  All else ... is none": every sign in a place where some can stand.
    static void promise3AllOtherSignsAreNone() {
        for (char sign = 33; sign < 127; sign++) {
            boolean joins = "<=+-*".indexOf(sign) >= 0 || sign >= '0' && sign <= '9';
            due("1" + sign + "2", readTown("spends 1" + sign + "2;"),
                    joins ? 0 : KIND_CANT + 16 * (sign == ';' ? 9 : 8));
            boolean begins = sign >= '0' && sign <= '9' || sign == '(';
            due("within " + sign, readTown("spends (1)+" + sign + "2));"),
                    KIND_CANT + 16 * (sign == '(' ? 14 : begins ? 13 : 11));
        }
        due("all eight", readTown("spends (1<2)=3+4-5*6;"), 0);
    }

    // TOWN: "any number of": none, one and many of each, in any order.
    static void promise3AnyNumberInAnyOrder() {
        due("none", readTown(""), 0);
        BorrowedLives x = town("wish 1;sign 3;" + alike("b", 1) + "good 1;" + alike("a", 2) + "bar a b;mends 1;bar b a;spends 1;");
        due("people", x.count(0), 2);
        due("bars", x.count(1), 2);
        due("sign", x.count(2), 3);
        due("no bar", town(TWO).count(1), 0);
        String bars = "";
        for (char p = 'a'; p <= 'f'; p++) {
            for (char l = 'a'; l <= 'f'; l++) {
                bars += p == l ? "" : "bar " + p + " " + l + ";";
            }
        }
        due("30 bars", town(SIX + bars).count(1), 30);
    }

    // TOWN: "person: 6 at most, numbered as told"; FAULTS: "5 one too many: the words person of a seventh".
    static void promise3SixPeopleAtMost() {
        BorrowedLives x = town(alike("a", 10) + alike("b", 11) + alike("c", 12) + alike("d", 13) + alike("e", 14) + alike("f", 15));
        due("six", x.count(0), 6);
        for (int life = 0; life < 6; life++) {
            due("as told", x.life(life, 0), 10 + life);
        }
        townFault(KIND_MANY, SIX, alike("g", 1));
        townFault(KIND_MANY, SIX, "person");
        townFault(KIND_MANY, SIX + "sign 1;", "person a a a");
        due("other lines behind six", readTown(SIX + "bar a b;sign 1;"), 0);
    }

    // TOWN: "KIND: plain, miser, thief, mayor": these four and no more.
    static void promise3FourKinds() {
        String[] kinds = {"plain", "miser", "thief", "mayor"};
        for (int kind = 0; kind < 4; kind++) {
            due(kinds[kind], town(person("a", kinds[kind], 1, 1, 1, 1)).person(0, 0), kind);
        }
        for (String other : new String[] {"day", "not", "king", "skill", "7", ";", "plai", "plains"}) {
            townFault(KIND_CANT, "person a ", other + " skill 1 purse 1 debt 1 home 1;");
        }
    }

    // TOWN: "skill 0 to 9, purse 0 to 999, debt 0 to 999, home 0 to 9"; FAULTS: "4 a NUMBER that is not as told".
    static void promise3NumbersOfAPerson() {
        BorrowedLives least = town(person("a", "plain", 0, 0, 0, 0));
        BorrowedLives most = town(person("a", "plain", 9, 999, 999, 9));
        due("skill", least.person(0, 1), 0);
        due("skill", most.person(0, 1), 9);
        for (int what = 0; what < 3; what++) {
            due("life " + what, least.life(0, what), 0);
            due("life " + what, most.life(0, what), what == 2 ? 9 : 999);
        }
        for (String above : new String[] {"10", "9999"}) {
            townFault(KIND_NUMBER, "person a plain skill ", above + " purse 1 debt 1 home 1;");
            townFault(KIND_NUMBER, "person a plain skill 1 purse 1 debt 1 home ", above + ";");
        }
        for (String above : new String[] {"1000", "9999"}) {
            townFault(KIND_NUMBER, "person a plain skill 1 purse ", above + " debt 1 home 1;");
            townFault(KIND_NUMBER, "person a plain skill 1 purse 1 debt ", above + " home 1;");
        }
        townFault(KIND_CANT, "person a plain skill ", "-1 purse 1 debt 1 home 1;");
    }

    // TOWN: "bar: a PERSON told who may not be another one told"; FAULTS: "2 a NAME of no PERSON (behind bar ...) told".
    static void promise3BarsAreOfPeopleTold() {
        due("told ahead", readTown(TWO + "bar x y;"), 0);
        townFault(KIND_NOBODY, TWO + "bar ", "z y;");
        townFault(KIND_NOBODY, TWO + "bar x ", "z;");
        townFault(KIND_NOBODY, "bar ", "x y;" + TWO);
        townFault(KIND_NOBODY, alike("x", 1) + "bar x ", "y;" + alike("y", 1));
        townFault(KIND_NOBODY, "bar ", "x y;");
    }

    // TOWN: "each so once"; FAULTS: "3 ... or [the second NAME] of bar of these told so".
    static void promise3ABarOnlyOnce() {
        due("the other way", readTown(TWO + "bar x y;bar y x;"), 0);
        townFault(KIND_TWICE, TWO + "bar x y;bar x ", "y;");
        townFault(KIND_TWICE, TWO + "bar x y;bar y x;bar y ", "x;");
        due("another one", readTown(THREE + "bar ann bob;bar ann cid;bar bob cid;"), 0);
    }

    // TOWN: "(he himself not: nobody is himself)"; FAULTS: "3 ... the second NAME of bar ... that is the first one".
    static void promise3NobodyIsBarredFromHimself() {
        townFault(KIND_TWICE, TWO + "bar x ", "x;");
        townFault(KIND_TWICE, TWO + "bar y ", "y;");
        townFault(KIND_NOBODY, TWO + "bar ", "z z;");
    }

    // TOWN: "sign 0 to 999 (50)".
    static void promise3SignIs0To999() {
        due("untold", town(TWO).count(2), 50);
        due("0", town(TWO + "sign 0;").count(2), 0);
        due("999", town(TWO + "sign 999;").count(2), 999);
        townFault(KIND_NUMBER, TWO + "sign ", "1000;");
        BorrowedLives x = town("sign 7;");
        feed(x, TWO);
        due("told again", x.town(), 0);
        due("untold again", x.count(2), 50);
    }

    // TOWN: "sign, spends, mends, good, wish: once each"; FAULTS: "3 ... sign, spends, mends, good, wish a second time".
    static void promise3LawsOnceEach() {
        String[] laws = {"sign", "spends", "mends", "good", "wish"};
        String all = "";
        for (String law : laws) {
            all += law + " 0;";
            townFault(KIND_TWICE, law + " 0;", law + " 0;");
            townFault(KIND_TWICE, law + " 50;" + TWO, law + " 50;");
            townFault(KIND_TWICE, law + " 0;", law);
        }
        due("once each", readTown(all), 0);
        for (String law : laws) {
            townFault(KIND_TWICE, all, law + " 0;");
        }
    }

    // NAME: "another WORD than person, skill, ..., the KINDS, not, and, or": none of these, but facts and words close by.
    static void promise3ANameIsNoReservedWord() {
        for (String word : RESERVED) {
            townFault(KIND_CANT, "person ", word + " plain skill 1 purse 1 debt 1 home 1;");
            townFault(KIND_CANT, TWO + "bar ", word + " x;");
            townFault(KIND_CANT, TWO + "bar x ", word + ";");
            due("close to " + word, readTown(alike(word + "z", 1)), 0);
            due("close to " + word, readTown(alike(word.substring(0, word.length() - 1) + "qq", 1)), 0);
        }
        for (String fact : FACTS) {
            BorrowedLives x = town(alike(fact, 5) + alike("a", 6) + "bar " + fact + " a;wish " + fact + ";");
            due("a fact as a NAME", x.may(0, 1), false);
        }
        townFault(KIND_CANT, "person ", "5 plain");
        townFault(KIND_CANT, "person ", "; plain");
    }

    // NAME: "no two are alike"; FAULTS: "3 a NAME told already".
    static void promise3NoTwoNamesAreAlike() {
        townFault(KIND_TWICE, alike("aa", 1) + "person ", "aa plain");
        townFault(KIND_TWICE, alike("a", 1) + alike("abcdefgh", 1) + "person ", "abcdefgh plain");
        due("nearly", readTown(alike("a", 1) + alike("aa", 1) + alike("ab", 1) + alike("ba", 1) + alike("aaaaaaaa", 1)
                + alike("aaaaaaab", 1)), 0);
    }

    // E: "TEST { and TEST or or TEST }, from the left": one and many.
    static void promise3AndOrFromTheLeft() {
        dueOf("7", 7);
        dueOf("1 or 1 and 0", 0);
        dueOf("0 and 0 or 1", 1);
        dueOf("0 and 1 or 1 and 1 or 0", 1);
        townFault(KIND_CANT, "wish 1 and ", ";");
        townFault(KIND_CANT, "wish 1 ", "1;");
        townFault(KIND_CANT, "wish ", "or 1;");
    }

    // E: "TEST: SUM, or SUM < SUM, or SUM = SUM": none or one of these, not two.
    static void promise3ATestComparesOnce() {
        dueOf("1 + 1 < 3", 1);
        dueOf("1 + 1 = 2", 1);
        townFault(KIND_CANT, "wish 1 < 2 ", "< 3;");
        townFault(KIND_CANT, "wish 1 < 2 ", "= 3;");
        townFault(KIND_CANT, "wish 1 = 2 ", "< 3;");
        townFault(KIND_CANT, "wish 1 = 2 ", "= 3;");
        dueOf("1 < 2 and 2 < 3", 1);
        dueOf("(1 < 2) < 2", 1);
        townFault(KIND_CANT, "wish 1 < ", ";");
    }

    // E: "SUM: PRODUCT { + or - PRODUCT }; PRODUCT: PART { * PART }": one and many; * ahead of + and -, from the left.
    static void promise3SumsAndProducts() {
        dueOf("9-3-2", 4);
        dueOf("2+3*4-1", 13);
        dueOf("2*3+4", 10);
        dueOf("8-2*3*1", 2);
        dueOf("(9-3)*2", 12);
        townFault(KIND_CANT, "wish 1 + ", "- 1;");
        townFault(KIND_CANT, "wish ", "- 1;");
        townFault(KIND_CANT, "wish 1 * ", ";");
    }

    // E: "PART: a NUMBER, a fact, not PART, ( E )": not takes one PART; a ( needs its E and its ).
    static void promise3PartsOfAnE() {
        dueOf("not 0 + 5", 6);
        dueOf("not 1 * 5", 0);
        dueOf("not (0 + 5)", 0);
        dueOf("money * 100 + owed * 10 + neat", 709);
        townFault(KIND_CANT, "wish not ", ";");
        townFault(KIND_CANT, "wish not ", "and 1;");
        townFault(KIND_CANT, "wish (", ");");
        townFault(KIND_CANT, "wish (1", ";");
        townFault(KIND_CANT, "wish 1", ");");
        townFault(KIND_CANT, "wish ", "hide;");
        townFault(KIND_CANT, "wish ", "x;");
        townFault(KIND_CANT, "wish ", ";");
        townFault(KIND_CANT, "wish", "");
    }

    // E: "no PART lies within 5 of not and ( )"; FAULTS: "5 ... not, or a PART, within 5 others".
    static void promise3NoPartWithin5Others() {
        dueOf("not not not not 6", 1);
        townFault(KIND_MANY, "wish not not not not not ", "6;");
        townFault(KIND_MANY, "wish not not not not not ", "not 6;");
        townFault(KIND_MANY, "wish not not not not not ", "(6);");
        townFault(KIND_MANY, "wish not not not not not ", "money;");
        dueOf("((((6))))", 6);
        townFault(KIND_MANY, "wish (((((", "6)))));");
        townFault(KIND_MANY, "wish (((((", "(6))))));");
        townFault(KIND_MANY, "wish (((((", "not 6)))));");
        townFault(KIND_MANY, "wish (((((", "able)))));");
        dueOf("not (not (6))", 1);
        townFault(KIND_MANY, "wish not (not (not ", "6));");
        townFault(KIND_MANY, "wish ((((1 + (", "6)))));");
    }

    // E: "no PART lies within 5 of not and ( )": only those count that are open around it.
    static void promise3WhatIsClosedIsNotAround() {
        dueOf("((((6)))) + ((((7)))) * ((((2))))", 20);
        dueOf("not not not not 1 + not not not not 1", 2);
        dueOf("((((1)) + ((2)) < 4))", 1);
        townFault(KIND_MANY, "wish ((((6)))) + (((((", "7)))));");
    }

    // Facts: "of spends, mends, wish, too, able ..., trade ...": good knows but money, owed and neat.
    static void promise3FactsOfGood() {
        for (String fact : new String[] {"able", "trade"}) {
            townFault(KIND_CANT, "good ", fact + ";");
            townFault(KIND_CANT, "good 1 + (", fact + ");");
            for (String law : new String[] {"spends ", "mends ", "wish "}) {
                due(law + fact, readTown("good 1;" + law + fact + ";"), 0);
                due(law + fact, readTown(law + fact + ";good neat;"), 0);
            }
        }
        due("these it knows", readTown("good money + owed + neat;"), 0);
    }

    // E: "Of not, and, or, < and = comes 1 or 0".
    static void promise3TestsAnswer1Or0() {
        dueOf("5 and 7", 1);
        dueOf("2 and 4", 1);
        dueOf("0 and 5", 0);
        dueOf("5 and 0", 0);
        dueOf("0 and 0", 0);
        dueOf("6 or 0", 1);
        dueOf("0 or 6", 1);
        dueOf("3 or 6", 1);
        dueOf("0 or 0", 0);
        dueOf("not 5", 0);
        dueOf("not 1", 0);
        dueOf("not 0", 1);
    }

    // E: "SUM < SUM, or SUM = SUM": less, equal, more.
    static void promise3ComparesOnAllSides() {
        dueOf("4 < 5", 1);
        dueOf("5 < 5", 0);
        dueOf("6 < 5", 0);
        dueOf("4 = 5", 0);
        dueOf("5 = 5", 1);
        dueOf("6 = 5", 0);
        dueOf("0-1 < 0", 1);
        dueOf("0 < 0-1", 0);
    }

    // E: "what is not 0 is so": what is below 0, too.
    static void promise3WhatIsNot0IsSo() {
        dueOf("(0-1) and (0-2)", 1);
        dueOf("(0-1) or 0", 1);
        dueOf("not (0-1)", 0);
        dueOf("not (1-1)", 1);
        dueOf("(1-1) and 1", 0);
    }

    // E: "ints wrap": by +, - and *, and < tells them as ints.
    static void promise3IntsWrap() {
        dueOf(MAX, Integer.MAX_VALUE);
        dueOf(MAX + "+1", Integer.MIN_VALUE);
        dueOf("0-(" + MAX + ")-1", Integer.MIN_VALUE);
        dueOf("0-(" + MAX + ")-2", Integer.MAX_VALUE);
        dueOf("9999*9999*9999", 9999 * 9999 * 9999);
        dueOf("(" + MAX + "+1)*2", 0);
        dueOf("(" + MAX + ")*2", -2);
        dueOf("(" + MAX + "+1) < (" + MAX + ")", 1);
        dueOf("(" + MAX + ") < (" + MAX + "+1)", 0);
        dueOf("(" + MAX + "+1) = (0-(" + MAX + ")-1)", 1);
        dueOf("not ((" + MAX + "+1)*2)", 1);
    }

    // FAULTS: "kind + 16 * the place (from 0) of a token": the first sign of the tape is at 0, the last one at 999.
    static void promise3PlacesAreFrom0() {
        due("at 0", readTown(";"), KIND_CANT);
        due("at 1", readTown(" ;"), KIND_CANT + 16);
        due("at 999", readTown("\n".repeat(999) + "*"), KIND_CANT + 16 * 999);
        due("of kind 5 at its first sign", readTown(SIX + "  person"), KIND_MANY + 16 * (SIX.length() + 2));
    }

    // FAULTS: "the end being one at the text's length": the end is wrong where a token is due, behind blanks, too.
    static void promise3TheEndIsATokenAtTheLength() {
        String line = "person a plain skill 1 purse 1 debt 1 home 1 ;bar a";
        for (int end = 1; end < line.length(); end++) {
            boolean cutsAWord = Character.isLetter(line.charAt(end)) && Character.isLetter(line.charAt(end - 1));
            boolean cutsALine = line.charAt(end - 1) != ';';
            if (!cutsAWord) {
                due("cut at " + end, readTown(line.substring(0, end)), cutsALine ? KIND_CANT + 16 * end : 0);
            }
        }
        due("blanks count", readTown("sign 5 \n "), KIND_CANT + 16 * 9);
        due("no end within a line is no fault", readTown("sign 5; \n "), 0);
        due("a full tape", readTown(" ".repeat(994) + "sign 5"), KIND_CANT + 16 * 1000);
    }

    // FAULTS: "of the first token from the left that is wrong": what is behind it counts no more.
    static void promise3TheFirstWrongTokenCounts() {
        townFault(KIND_NUMBER, "sign ", "1000 # person person");
        townFault(KIND_TWICE, TWO + "person ", "x king skill 10;");
        townFault(KIND_NOBODY, TWO + "bar ", "z z # 1000");
        townFault(KIND_MANY, SIX, "person person a;");
        townFault(KIND_CANT, "sign ", "# 1000;");
        townFault(KIND_NUMBER, "person a plain skill ", "10 purse 1000 debt 1000 home 10");
    }

    // FAULTS: "the least": a token wrong in two ways tells the lesser kind.
    static void promise3TheLeastKindCounts() {
        townFault(KIND_CANT, "good (((((", "able)))));");
        townFault(KIND_CANT, "wish not not not not not ", "skill;");
        townFault(KIND_CANT, "wish not not not not not ", "12345;");
        townFault(KIND_CANT, "wish (((((", ")))));");
        townFault(KIND_CANT, "sign 5 ", "1000;");
        townFault(KIND_CANT, "sign 5;", "signs 1000;");
        townFault(KIND_CANT, SIX, "persons a plain");
        yearFault(KIND_CANT, "day;".repeat(40), "hides;");
        yearFault(KIND_CANT, "day;".repeat(40), "10000;");
        yearFault(KIND_CANT, "day;".repeat(40), ";");
        yearFault(KIND_CANT, "day;".repeat(40), "#;");
    }

    // Promise 3: "0, or its FAULT (all stays then)".
    static void promise3WithAFaultAllStays() {
        BorrowedLives x = busy();
        String before = look(x);
        for (String faulty : new String[] {"person a plain skill 1 purse 1 debt 1 home 1;sign 5;bar a a;", "sign 9", "#"}) {
            feed(x, faulty);
            due("a fault", x.town() > 0, true);
            due("all stays", look(x), before);
        }
        due("the laws stay", x.day(), 2);
        due("the YEAR stays", x.judged(0), 0);
        due("the MARK stays", x.mark(2, true), true);
        due("as marked", x.life(0, 3), 7);
    }

    // "Without a FAULT a TOWN is the TOWN from then on: all are at home, ..., nothing hidden, no harm yet, no YEAR, no TALE,
    // nothing can be undone, no MARK is there."
    static void promise3WithoutAFaultAllIsNew() {
        BorrowedLives x = busy();
        for (int mark = 0; mark < 4; mark++) {
            x.mark(mark, false);
        }
        String foreseen = foresee(x);
        feed(x, TWO);
        due("told", x.town(), 0);
        due("as a new one", look(x), look(town(TWO)));
        due("foreseen as of a new one", foresee(x), foresee(town(TWO)));
        due("otherwise than ahead", foresee(x).equals(foreseen), false);
        due("no YEAR", x.judged(1), 0);
        due("nothing to undo", x.undo(), false);
        for (int mark = 0; mark < 4; mark++) {
            due("no MARK", x.mark(mark, true), false);
        }
        due("all LOTS", x.how(), 1);
        feed(x, "");
        due("nobody", x.town(), 0);
        due("as a new object", look(x), look(new BorrowedLives()));
        due("no lots", x.lots(), 0);
    }

    // Promise 3: a TOWN told anew holds nothing of the one ahead: no PERSON, no bar, no sign, no law.
    static void promise3NothingIsLeftOfTheTownAhead() {
        BorrowedLives x = town(SIX + "bar a b;bar b a;sign 3;spends 1;mends 3;good 77;wish 5;");
        feed(x, alike("a", 50) + alike("b", 40));
        due("told", x.town(), 0);
        due("two", x.count(0), 2);
        due("no bars", x.count(1), 0);
        due("may", x.may(0, 1), true);
        due("person 2", x.person(2, 0), NONE);
        due("life 2", x.life(2, 0), NONE);
        due("good is untold", x.deeds(0, 0, 1, NONE), 50 + 60);
        x.lot(0);
        x.day();
        due("spends is untold: 6 each", x.life(0, 0), 50);
        due("mends is untold", x.life(0, 2), 5);
        feed(x, alike("a", 60) + alike("b", 40) + "spends 1;");
        due("told", x.town(), 0);
        x.lot(0);
        x.day();
        due("1 went and 1 came", x.life(0, 0), 60);
    }

    // Promise 3: a TOWN of fewer PEOPLE than the one ahead: as one told to a new object, at home and away.
    static void promise3AsOnANewObject() {
        String big = "";
        for (int i = 0; i < 6; i++) {
            big += person(String.valueOf((char) ('u' + i)), i == 5 ? "thief" : "mayor", 9 - i, 900 + i, 500, 9);
        }
        String[] smaller = {"", alike("a", 50), TWO, THREE, FOUR, FOUR + person("e", "miser", 7, 100, 9, 9)};
        for (String text : smaller) {
            BorrowedLives used = town(big + "spends 99;mends 0-1;");
            used.lot(200);
            used.day();
            foresee(used);
            feed(used, text);
            due("told", used.town(), 0);
            BorrowedLives fresh = town(text);
            due("foreseen", foresee(used), foresee(fresh));
            due("a lot", used.lot(1), fresh.lot(1));
            due("a day", used.day(), fresh.day());
            due("seen", look(used), look(fresh));
            due("foreseen", foresee(used), foresee(fresh));
        }
    }

    // Promise 3: TOWNS told again and again: the laws of the last one still find room.
    static void promise3AgainAndAgain() {
        BorrowedLives x = new BorrowedLives();
        String law = "good 0" + "+1-1".repeat(100) + "+";
        for (int told = 0; told < 20; told++) {
            feed(x, person("a", "plain", 0, 0, 0, 9) + law + told + ";");
            due("told", x.town(), 0);
            due("the law of now", x.deeds(0, 0, 1, NONE), told);
        }
    }

    // YEAR: "hide NAME N ... 0 to 999 coins"; FAULTS: "4 a NUMBER that is not as told".
    static void promise4HidesOf0To999Coins() {
        due("0", readYear("hide x 0;"), 0);
        due("999", readYear("hide x 999;"), 0);
        yearFault(KIND_NUMBER, "hide x ", "1000;");
        yearFault(KIND_NUMBER, "hide x ", "9999;");
        yearFault(KIND_CANT, "hide x ", "10000;");
        yearFault(KIND_CANT, "hide x ", "-1;");
    }

    // YEAR: "a SEED 0 to 9999".
    static void promise4SeedsAre0To9999() {
        due("0", readYear("lot 0;"), 0);
        due("9999", readYear("lot 9999;"), 0);
        yearFault(KIND_CANT, "lot ", "10000;");
        yearFault(KIND_CANT, "lot ", ";");
    }

    // YEAR: "a PERSON", "two PEOPLE"; FAULTS: "2 a NAME of no PERSON (behind ... hide, swap) told".
    static void promise4NamesAreOfPeopleTold() {
        due("x and y", readYear("hide y 1;swap x y;swap y x;"), 0);
        yearFault(KIND_NOBODY, "hide ", "z 1;");
        yearFault(KIND_NOBODY, "hide ", "abcdefgh 1;");
        yearFault(KIND_NOBODY, "swap ", "z x;");
        yearFault(KIND_NOBODY, "swap x ", "z;");
        yearFault(KIND_NOBODY, "swap ", "z z;");
        BorrowedLives x = new BorrowedLives();
        feed(x, "hide x 1;");
        due("nobody is told", x.year(), KIND_NOBODY + 16 * 5);
        for (String word : RESERVED) {
            yearFault(KIND_CANT, "hide ", word + " 1;");
            yearFault(KIND_CANT, "swap x ", word + ";");
        }
    }

    // FAULTS: "3 ... the second NAME of ... swap that is the first one".
    static void promise4NobodySwapsWithHimself() {
        yearFault(KIND_TWICE, "swap x ", "x;");
        yearFault(KIND_TWICE, "swap y ", "y;");
        due("as often as one likes", readYear("swap x y;swap x y;swap y x;"), 0);
    }

    // YEAR: "40 lines at most"; FAULTS: "5 one too many: ... the first word of a 41st line of a YEAR".
    static void promise4FortyLinesAtMost() {
        BorrowedLives x = town(TWO);
        year(x, "day;".repeat(39) + "lot 5;");
        due("40", x.count(9), 40);
        due("the 40th is lived", x.judged(0), 0);
        year(x, "day;".repeat(39));
        due("39", x.count(9), 39);
        for (String word : new String[] {"hide", "lot", "swap", "day", "home"}) {
            yearFault(KIND_MANY, "day;".repeat(40), word);
            yearFault(KIND_MANY, "lot 1;home;".repeat(20), word + " z z;");
        }
    }

    // YEAR: "any number of": none, too, in place of what was.
    static void promise4AnEmptyYear() {
        BorrowedLives x = town(TWO);
        year(x, "lot 1;home;");
        due("two", x.count(9), 2);
        due("homes", x.judged(1), 1);
        year(x, " \n");
        due("none", x.count(9), 0);
        due("no homes", x.judged(1), 0);
        due("nobody's YEAR", new BorrowedLives().year(), 0);
    }

    // YEAR: "day ;   home ;": words of a TOWN can't begin its lines, nor those of a YEAR a TOWN's.
    static void promise4WordsOfItsOwn() {
        for (String word : RESERVED) {
            boolean ofYear = "hide lot swap day home".contains(word);
            boolean ofTown = "person bar sign spends mends good wish".contains(word);
            if (!ofYear) {
                yearFault(KIND_CANT, "", word + ";");
            }
            if (!ofTown) {
                townFault(KIND_CANT, "", word + ";");
            }
        }
        yearFault(KIND_CANT, "day ", "home;");
        yearFault(KIND_CANT, "", ";");
        yearFault(KIND_CANT, "", "x;");
    }

    // FAULTS of a YEAR: "the end being one at the text's length".
    static void promise4TheEndOfAYear() {
        yearFault(KIND_CANT, "day", "");
        yearFault(KIND_CANT, "day;home ", "");
        yearFault(KIND_CANT, "hide", "");
        yearFault(KIND_CANT, "hide x", "");
        yearFault(KIND_CANT, "hide x 1", "");
        yearFault(KIND_CANT, "lot", "");
        yearFault(KIND_CANT, "lot 1", "");
        yearFault(KIND_CANT, "swap", "");
        yearFault(KIND_CANT, "swap x", "");
        yearFault(KIND_CANT, "swap x y\n", "");
    }

    // Promise 4: "The TAPE is read as a YEAR, likewise": with a FAULT all stays, without one only the YEAR is another.
    static void promise4WithAFaultAllStays() {
        BorrowedLives x = busy();
        String before = look(x);
        int homes = x.judged(1);
        feed(x, "lot 1;home;lot 1;home;lot 1;home;swap x x;");
        due("a fault", x.year(), KIND_TWICE + 16 * 40);
        due("all stays", look(x), before);
        due("the YEAR stays", x.judged(1), homes);
        year(x, "lot 1;home;");
        due("another YEAR", x.judged(1), 1);
        due("the rest stays", look(x), before);
        due("what could be undone can be", x.undo(), true);
        due("the MARK stays", x.mark(2, true), true);
    }
}
