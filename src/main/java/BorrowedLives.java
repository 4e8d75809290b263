import java.util.Arrays;
import java.util.NoSuchElementException;

/**
 * A town whose people must, once a year, by lot, be somebody else for a week.
 * The words in capitals are the terms of ../shared/DOC.md, which says what each call answers.
 */
public final class BorrowedLives {
    public static final int NONE = -1;

    /** Answered for wrong arguments where NONE is a right answer. */
    private static final int OTHERS = -2;
    private static final int MOST_PEOPLE = 6;
    private static final int MOST_DAYS = 7;
    private static final int MOST_COINS = 999;
    private static final int MOST_PURSE = 9999;
    private static final int MOST_SEED = 9999;
    private static final int MOST_YEARS = 20;
    private static final int MOST_UNDOS = 16;
    private static final int MOST_MARKS = 4;
    private static final int MOST_CARE = 5;
    private static final int MOST_GAIN = 9;

    private final Tape tape = new Tape();
    private final Town told = new Town();
    private final TownReader reader = new TownReader(tape);
    private final Year plan = new Year();
    private final Year draftPlan = new Year();
    private final Lots drawable = new Lots();
    private final Lives now = new Lives(told);
    private final Lives trial = new Lives(told);
    /** A ring with one place more than can be undone: that one is written before it is known whether it counts. */
    private final Lives[] undos = new Lives[MOST_UNDOS + 1];
    private int nextUndo = 0;
    private int undoable = 0;
    private final Tales tales = new Tales();
    private final Lives[] markedLives = new Lives[MOST_MARKS];
    private final Tales[] markedTales = new Tales[MOST_MARKS];
    private final boolean[] laid = new boolean[MOST_MARKS];
    private final Forecast forecast = new Forecast(told, drawable, now);
    private final Deeds bestDeeds = new Deeds();
    private final Pairs bestPairs = new Pairs();

    public BorrowedLives() {
        for (int i = 0; i < undos.length; i++) {
            undos[i] = new Lives(told);
        }
        for (int i = 0; i < laid.length; i++) {
            markedLives[i] = new Lives(told);
            markedTales[i] = new Tales();
        }
    }

    public int feed(long a, long b, long c) {
        tape.addBytes(a);
        tape.addBytes(b);
        tape.addBytes(c);
        return tape.length;
    }

    public int town() {
        int fault = reader.readTown();
        if (fault == 0) {
            told.copyFrom(reader.draft);
            beginTown();
        }
        return fault;
    }

    public int year() {
        int fault = draftPlan.readFrom(tape, told);
        if (fault == 0) {
            plan.copyFrom(draftPlan);
        }
        return fault;
    }

    public int person(int person, int what) {
        if (!told.has(person)) {
            return NONE;
        }
        switch (what) {
            case 0:
                return told.kindOf(person);
            case 1:
                return told.skillOf(person);
            case 2:
                return now.ledBy(person);
            default:
                return NONE;
        }
    }

    public int life(int life, int what) {
        if (!told.has(life)) {
            return NONE;
        }
        switch (what) {
            case 0:
                return now.purse[life];
            case 1:
                return now.debt[life];
            case 2:
                return now.home[life];
            case 3:
                return now.hidden[life];
            case 4:
                return now.self[life];
            case 5:
                return now.harmOf(life);
            case 6:
                return now.goodOf(life);
            default:
                return NONE;
        }
    }

    public boolean may(int person, int life) {
        return told.allows(person, life);
    }

    public boolean hide(int life, int coins) {
        keepForUndo();
        return byHand(now.hideCoins(life, coins));
    }

    public int lot(int seed) {
        if (seed < 0 || seed > MOST_SEED) {
            return NONE;
        }
        keepForUndo();
        int place = now.drawLot(drawable, seed);
        byHand(place != NONE);
        return place;
    }

    public boolean swap(int person, int other) {
        keepForUndo();
        return byHand(now.changeLives(person, other));
    }

    public int day() {
        keepForUndo();
        return byHand(now.nextDay()) ? now.days : NONE;
    }

    public int home() {
        keepForUndo();
        int harm = now.goHome();
        byHand(harm != NONE);
        return harm;
    }

    public boolean undo() {
        if (undoable <= 0) {
            return false;
        }
        nextUndo = nextUndo > 0 ? nextUndo - 1 : undos.length - 1;
        undoable--;
        now.copyFrom(undos[nextUndo]);
        forecast.forget();
        return true;
    }

    public int judged(int what) {
        if (what < 0 || what > 2) {
            return OTHERS;
        }
        int firstWrong = plan.judge(trial, drawable);
        return what == 0 ? firstWrong : what == 1 ? trial.homes : trial.harm;
    }

    public int lots() {
        return drawable.count;
    }

    public int odds(int person, int life) {
        if (!told.has(person) || !told.has(life) || drawable.count <= 0) {
            return NONE;
        }
        int led = 0;
        for (int place = 0; place < drawable.count; place++) {
            if (drawable.selfIn(place, life) == person) {
                led++;
            }
        }
        return led * 1000000 / drawable.count;
    }

    public int least(int life) {
        if (drawable.count <= 0 || (life != NONE && !told.has(life))) {
            return OTHERS;
        }
        int place = forecast.leastHarmful();
        return life == NONE ? forecast.harmBy(place) : drawable.selfIn(place, life);
    }

    public int prepare(int life, int what) {
        if (drawable.count <= 0 || !told.has(life) || what < 0 || what > 1) {
            return NONE;
        }
        forecast.seekHiding(life);
        return what == 0 ? forecast.bestCoins : drawable.meanInThousandths(forecast.bestHarm);
    }

    public int deeds(int person, int life, int days, int what) throws NoSuchElementException {
        if (!told.has(person) || !told.has(life) || days < 1 || days > MOST_DAYS) {
            throw new NoSuchElementException("no such person, life or number of days");
        }
        if (what < NONE || what >= days) {
            throw new NoSuchElementException("no such deed");
        }
        bestDeeds.seek(now, person, life, days);
        return what == NONE ? bestDeeds.bestGood : bestDeeds.deedOf(days, what);
    }

    public int pairs(int person) {
        if (person != NONE && !told.has(person)) {
            return OTHERS;
        }
        bestPairs.seek(now);
        return person == NONE ? bestPairs.most : bestPairs.best[person];
    }

    public boolean tale(int life, int day, int purse) {
        return told.has(life) && tales.add(life, day, purse);
    }

    public int how() {
        return forecast.countFitting(tales);
    }

    public int who(int life) {
        if (!told.has(life) || forecast.countFitting(tales) <= 0) {
            return NONE;
        }
        return forecast.onlySelf(life);
    }

    public int ask() {
        return forecast.bestQuestion(forecast.countFitting(tales));
    }

    public int law(int sign) {
        if (drawable.count <= 0 || sign < 0 || sign > MOST_COINS) {
            return NONE;
        }
        return drawable.meanInThousandths(forecast.harmBySign(sign));
    }

    public int rests(int gets, int both, int loses, int what) throws NoSuchElementException {
        if (!isGain(gets) || !isGain(both) || !isGain(loses) || what < NONE) {
            throw new NoSuchElementException("no such care");
        }
        int found = 0;
        for (int one = 0; one <= MOST_CARE; one++) {
            for (int other = 0; other <= MOST_CARE; other++) {
                if (isBestCare(gets, both, loses, one, other) && isBestCare(gets, both, loses, other, one)) {
                    if (found == what) {
                        return 10 * one + other;
                    }
                    found++;
                }
            }
        }
        if (what != NONE) {
            throw new NoSuchElementException("no such rest");
        }
        return found;
    }

    public int years(int seed, int years, int what) {
        if (seed < 0 || seed > MOST_SEED || years < 1 || years > MOST_YEARS || what < 0 || what > 2) {
            return NONE;
        }
        forecast.passYears(seed, years);
        return what == 0 ? forecast.yearsHarm : what == 1 ? forecast.yearsGood : forecast.yearsPurses;
    }

    public boolean mark(int mark, boolean back) {
        if (mark < 0 || mark >= laid.length || (back && !laid[mark])) {
            return false;
        }
        if (back) {
            now.copyFrom(markedLives[mark]);
            tales.copyFrom(markedTales[mark]);
            undoable = 0;
            forecast.forget();
        } else {
            markedLives[mark].copyFrom(now);
            markedTales[mark].copyFrom(tales);
            laid[mark] = true;
        }
        return true;
    }

    public int count(int what) {
        switch (what) {
            case 0:
                return told.people;
            case 1:
                return told.bars;
            case 2:
                return told.sign;
            case 3:
                return now.away ? 1 : 0;
            case 4:
                return now.days;
            case 5:
                return now.homes;
            case 6:
                return now.harm;
            case 7:
                return now.sumOf(now.purse);
            case 8:
                return now.sumOf(now.debt);
            case 9:
                return plan.lines;
            case 10:
                return tales.count;
            case 11:
                return undoable;
            case 12:
                return tape.length;
            default:
                return NONE;
        }
    }

    private void beginTown() {
        drawable.findAll(told);
        now.begin();
        plan.lines = 0;
        tales.count = 0;
        undoable = 0;
        for (int mark = 0; mark < laid.length; mark++) {
            laid[mark] = false;
        }
        forecast.forget();
    }

    /** Copies how it is now before it is known whether anything will be done: only byHand lets it count. */
    private void keepForUndo() {
        undos[nextUndo].copyFrom(now);
    }

    private boolean byHand(boolean done) {
        if (done) {
            nextUndo = nextUndo + 1 < undos.length ? nextUndo + 1 : 0;
            undoable = Math.min(undoable + 1, MOST_UNDOS);
            forecast.forget();
        }
        return done;
    }

    private static boolean isGain(int gain) {
        return gain >= 0 && gain <= MOST_GAIN;
    }

    /** Whether one who cares so much would get no more by another care, as the other one cares. */
    private static boolean isBestCare(int gets, int both, int loses, int care, int others) {
        int got = gets * others + both * Math.min(care, others) - loses * care * care;
        for (int another = 0; another <= MOST_CARE; another++) {
            if (gets * others + both * Math.min(another, others) - loses * another * another > got) {
                return false;
            }
        }
        return true;
    }

    /** The signs fed, and the TOKENS that they make. */
    private static final class Tape {
        static final int MOST = 1000;
        static final int LONGEST_WORD = 8;
        static final int LONGEST_NUMBER = 4;

        static final int CANT_STAND = 1;
        static final int NOBODY = 2;
        static final int TOLD_ALREADY = 3;
        static final int NOT_AS_TOLD = 4;
        static final int TOO_MANY = 5;

        static final int END = 0;
        static final int NAME = 1;
        static final int NUMBER = 2;
        static final int UNKNOWN = 3;
        static final int STOPPED = 4;
        /** The words of WORDS are the tokens from here on: behind all signs, which are tokens by their own numbers. */
        static final int WORD = 128;
        static final int PERSON = WORD;
        static final int SKILL = WORD + 1;
        static final int PURSE = WORD + 2;
        static final int DEBT = WORD + 3;
        static final int HOME = WORD + 4;
        static final int BAR = WORD + 5;
        static final int SIGN = WORD + 6;
        static final int SPENDS = WORD + 7;
        static final int MENDS = WORD + 8;
        static final int GOOD = WORD + 9;
        static final int WISH = WORD + 10;
        static final int HIDE = WORD + 11;
        static final int LOT = WORD + 12;
        static final int SWAP = WORD + 13;
        static final int DAY = WORD + 14;
        static final int PLAIN = WORD + 15;
        static final int MAYOR = WORD + 18;
        static final int NOT = WORD + 19;
        static final int AND = WORD + 20;
        static final int OR = WORD + 21;
        /** From here on words that are facts in an E, but may be NAMES as well. */
        static final int FACT = WORD + 22;
        /** Each word takes LONGEST_WORD signs, so that its number is its place divided by that. */
        static final String WORDS = "person  skill   purse   debt    home    bar     sign    spends  mends   good    wish    hide    lot     swap    day     plain   miser   thief   mayor   not     and     or      money   owed    neat    able    trade   ";
        static final String SIGNS = "()<=+-*;";

        private static final int BLANKS = 0;
        private static final int LETTERS = 1;
        private static final int DIGITS = 2;
        private static final int OTHER_SIGNS = 3;

        private final char[] signs = new char[MOST];
        private int length = 0;
        private final int[] tokens = new int[MOST + 1];
        private final int[] places = new int[MOST + 1];
        /** Of a NUMBER how much it is, of a word its letters as digits. */
        private final long[] values = new long[MOST + 1];
        private int tokenCount = 0;
        private int at = 0;
        private int fault = 0;

        void addBytes(long bytes) {
            for (int shift = 56; shift >= 0; shift -= 8) {
                int sign = (int) (bytes >>> shift & 255);
                if ((sign == 10 || (sign >= 32 && sign <= 126)) && length < MOST) {
                    signs[length] = (char) sign;
                    length++;
                }
            }
        }

        /** Makes TOKENS of all signs and empties the tape. */
        void takeAll() {
            tokenCount = 0;
            at = 0;
            fault = 0;
            for (int place = 0; place < length; place++) {
                int sort = sortOf(signs[place]);
                boolean goesOnAhead = place > 0 && sort != OTHER_SIGNS && sortOf(signs[place - 1]) == sort;
                if (sort != BLANKS && !goesOnAhead) {
                    scanToken(place, sort);
                }
            }
            addToken(END, length, 0);
            length = 0;
        }

        private static int sortOf(char sign) {
            if (sign == 10 || sign == ' ') {
                return BLANKS;
            }
            if (sign >= 'a' && sign <= 'z') {
                return LETTERS;
            }
            return sign >= '0' && sign <= '9' ? DIGITS : OTHER_SIGNS;
        }

        private void scanToken(int place, int sort) {
            int end = place + 1;
            while (end < length && sortOf(signs[end]) == sort) {
                end++;
            }
            if (sort == LETTERS) {
                scanWord(place, end);
            } else if (sort == DIGITS) {
                scanNumber(place, end);
            } else {
                addToken(SIGNS.indexOf(signs[place]) >= 0 ? signs[place] : UNKNOWN, place, 0);
            }
        }

        private void scanWord(int place, int end) {
            if (end - place > LONGEST_WORD) {
                addToken(UNKNOWN, place, 0);
                return;
            }
            long letters = 0;
            for (int i = place; i < end; i++) {
                letters = letters * 27 + (signs[i] - 'a' + 1);
            }
            int token = NAME;
            for (int from = 0; from < WORDS.length(); from += LONGEST_WORD) {
                if (standsIn(from, place, end)) {
                    token = WORD + from / LONGEST_WORD;
                }
            }
            addToken(token, place, letters);
        }

        private boolean standsIn(int from, int place, int end) {
            for (int i = 0; i < LONGEST_WORD && from + i < WORDS.length(); i++) {
                char sign = place + i < end ? signs[place + i] : ' ';
                if (WORDS.charAt(from + i) != sign) {
                    return false;
                }
            }
            return true;
        }

        private void scanNumber(int place, int end) {
            if (end - place > LONGEST_NUMBER) {
                addToken(UNKNOWN, place, 0);
                return;
            }
            int number = 0;
            for (int i = place; i < end; i++) {
                number = number * 10 + (signs[i] - '0');
            }
            addToken(NUMBER, place, number);
        }

        private void addToken(int token, int place, long value) {
            if (tokenCount < tokens.length) {
                tokens[tokenCount] = token;
                places[tokenCount] = place;
                values[tokenCount] = value;
                tokenCount++;
            }
        }

        /** The token in hand; behind a FAULT it is STOPPED, which can stand nowhere. */
        int token() {
            return fault != 0 || at >= tokenCount ? STOPPED : tokens[at];
        }

        long value() {
            return at < tokenCount ? values[at] : 0;
        }

        boolean goesOn() {
            int token = token();
            return token != END && token != STOPPED;
        }

        /** Goes on to the next token, but for FAULTS and the end, which nothing is behind. */
        void advance() {
            if (fault == 0 && at + 1 < tokenCount) {
                at++;
            }
        }

        /** Only the first FAULT counts. */
        void wrong(int kind) {
            if (fault == 0 && at < tokenCount) {
                fault = kind + 16 * places[at];
            }
        }

        void expect(int token) {
            if (token() == token) {
                advance();
            } else {
                wrong(CANT_STAND);
            }
        }

        int readNumber(int most) {
            if (token() != NUMBER) {
                wrong(CANT_STAND);
                return 0;
            }
            int number = (int) value();
            if (number > most) {
                wrong(NOT_AS_TOLD);
                return 0;
            }
            advance();
            return number;
        }

        boolean isName() {
            return token() == NAME || token() >= FACT;
        }

        /** The PERSON in hand, one who is told. */
        int readPerson(Town town) {
            int person = isName() ? town.named(value()) : NONE;
            if (person == NONE) {
                wrong(isName() ? NOBODY : CANT_STAND);
                return NONE;
            }
            advance();
            return person;
        }
    }

    /** What is told of a town, as it was told. */
    private static final class Town {
        static final int MISER = 1;
        static final int THIEF = 2;
        static final int MAYOR = 3;

        private int people = 0;
        private final long[] names = new long[MOST_PEOPLE];
        private final int[] kinds = new int[MOST_PEOPLE];
        private final int[] skills = new int[MOST_PEOPLE];
        private final int[] purses = new int[MOST_PEOPLE];
        private final int[] debts = new int[MOST_PEOPLE];
        private final int[] homes = new int[MOST_PEOPLE];
        /** Of each PERSON a bit for each one whom he may not be. */
        private final int[] barred = new int[MOST_PEOPLE];
        private int bars = 0;
        private int sign = 50;
        private boolean signTold = false;
        private final Laws laws = new Laws();

        void clear() {
            people = 0;
            Arrays.fill(barred, 0);
            bars = 0;
            sign = 50;
            signTold = false;
            laws.clear();
        }

        void copyFrom(Town other) {
            people = other.people;
            System.arraycopy(other.names, 0, names, 0, MOST_PEOPLE);
            System.arraycopy(other.kinds, 0, kinds, 0, MOST_PEOPLE);
            System.arraycopy(other.skills, 0, skills, 0, MOST_PEOPLE);
            System.arraycopy(other.purses, 0, purses, 0, MOST_PEOPLE);
            System.arraycopy(other.debts, 0, debts, 0, MOST_PEOPLE);
            System.arraycopy(other.homes, 0, homes, 0, MOST_PEOPLE);
            System.arraycopy(other.barred, 0, barred, 0, MOST_PEOPLE);
            bars = other.bars;
            sign = other.sign;
            signTold = other.signTold;
            laws.copyFrom(other.laws);
        }

        /** A PERSON, whose purse, debt and home the caller tells: his number, or NONE if there is no room. */
        int addPerson(long name, int kind, int skill) {
            if (people < 0 || people >= MOST_PEOPLE) {
                return NONE;
            }
            names[people] = name;
            kinds[people] = kind;
            skills[people] = skill;
            people++;
            return people - 1;
        }

        boolean has(int person) {
            return person >= 0 && person < people && person < MOST_PEOPLE;
        }

        int named(long name) {
            for (int person = 0; person < people; person++) {
                if (names[person] == name) {
                    return person;
                }
            }
            return NONE;
        }

        int kindOf(int person) {
            return has(person) ? kinds[person] : 0;
        }

        int skillOf(int person) {
            return has(person) ? skills[person] : 0;
        }

        boolean isBarred(int person, int life) {
            return has(person) && has(life) && (barred[person] >> life & 1) != 0;
        }

        boolean allows(int person, int life) {
            return has(person) && has(life) && person != life && !isBarred(person, life);
        }

        void addBar(int person, int life) {
            if (has(person) && has(life)) {
                barred[person] |= 1 << life;
                bars++;
            }
        }
    }

    /** The Es of a town, each as numbers, facts and, behind what they join, the tokens that join them. */
    private static final class Laws {
        static final int SPENDS = 0;
        static final int MENDS = 1;
        static final int GOOD = 2;
        static final int WISH = 3;
        static final int LAWS = 4;

        static final int MONEY = 0;
        static final int OWED = 1;
        static final int NEAT = 2;
        static final int ABLE = 3;
        static final int TRADE = 4;
        static final int FACTS = 5;
        static final int FACTS_OF_GOOD = 3;
        /** Far above what E can need: four for each of the five levels of not and ( ). */
        static final int STACK = 64;

        /** 0 and above: a NUMBER; -1 to -5: a fact; below: a token that joins, negated. */
        private final int[] codes = new int[Tape.MOST];
        private int size = 0;
        private final int[] from = new int[LAWS];
        private final int[] to = new int[LAWS];
        private final int[] facts = new int[FACTS];
        private final int[] stack = new int[STACK];

        void clear() {
            size = 0;
            Arrays.fill(from, 0);
            Arrays.fill(to, 0);
        }

        void copyFrom(Laws other) {
            size = other.size;
            System.arraycopy(other.codes, 0, codes, 0, codes.length);
            System.arraycopy(other.from, 0, from, 0, LAWS);
            System.arraycopy(other.to, 0, to, 0, LAWS);
        }

        boolean isTold(int law) {
            return law >= 0 && law < LAWS && to[law] > from[law];
        }

        void addCode(int code) {
            if (size < codes.length) {
                codes[size] = code;
                size++;
            }
        }

        void addLaw(int law, int start) {
            if (law >= 0 && law < LAWS) {
                from[law] = start;
                to[law] = size;
            }
        }

        void setFacts(int money, int owed, int neat, int able, int trade) {
            facts[MONEY] = money;
            facts[OWED] = owed;
            facts[NEAT] = neat;
            facts[ABLE] = able;
            facts[TRADE] = trade;
        }

        /** What an E comes to by the facts set last. */
        int valueOf(int law) {
            if (!isTold(law)) {
                return untold(law);
            }
            int top = 0;
            for (int i = from[law]; i < to[law] && i < codes.length; i++) {
                int code = codes[i];
                if (code >= -FACTS && top < STACK) {
                    stack[top] = code >= 0 ? code : facts[-1 - code];
                    top++;
                } else if (code == -Tape.NOT && top >= 1) {
                    stack[top - 1] = stack[top - 1] == 0 ? 1 : 0;
                } else if (code < -FACTS && top >= 2) {
                    top--;
                    stack[top - 1] = join(-code, stack[top - 1], stack[top]);
                }
            }
            return top > 0 ? stack[top - 1] : 0;
        }

        private static int join(int token, int left, int right) {
            switch (token) {
                case Tape.AND:
                    return left != 0 && right != 0 ? 1 : 0;
                case Tape.OR:
                    return left != 0 || right != 0 ? 1 : 0;
                case '<':
                    return left < right ? 1 : 0;
                case '=':
                    return left == right ? 1 : 0;
                case '+':
                    return left + right;
                case '-':
                    return left - right;
                default:
                    return left * right;
            }
        }

        private int untold(int law) {
            switch (law) {
                case SPENDS:
                    return facts[ABLE] * 2;
                case MENDS:
                    return facts[ABLE] > 4 ? 1 : facts[ABLE] < 3 ? -1 : 0;
                case GOOD:
                    return facts[MONEY] - facts[OWED] * 2 + facts[NEAT] * 10;
                default:
                    return facts[MONEY] - facts[OWED] + facts[NEAT] * 5;
            }
        }
    }

    /** Reads a TOWN into a draft, so that a FAULT leaves all as it is. */
    private static final class TownReader {
        private static final int MOST_WITHIN = 5;
        private static final int AND_OR = 0;
        private static final int TEST = 1;
        private static final int SUM = 2;
        private static final int PRODUCT = 3;

        private final Tape tape;
        private final Town draft = new Town();
        private int factsKnown = Laws.FACTS;

        TownReader(Tape tape) {
            this.tape = tape;
        }

        int readTown() {
            draft.clear();
            tape.takeAll();
            for (int line = 0; line <= Tape.MOST && tape.goesOn(); line++) {
                readLine();
            }
            return tape.fault;
        }

        private void readLine() {
            int word = tape.token();
            switch (word) {
                case Tape.PERSON:
                    readPersonLine();
                    break;
                case Tape.BAR:
                    readBar();
                    break;
                case Tape.SIGN:
                    readSign();
                    break;
                case Tape.SPENDS:
                case Tape.MENDS:
                case Tape.GOOD:
                case Tape.WISH:
                    readLaw(word - Tape.SPENDS);
                    break;
                default:
                    tape.wrong(Tape.CANT_STAND);
            }
            tape.expect(';');
        }

        private void readPersonLine() {
            if (draft.people >= MOST_PEOPLE) {
                tape.wrong(Tape.TOO_MANY);
                return;
            }
            tape.advance();
            long name = readNewName();
            int kind = readKind();
            int skill = readTold(Tape.SKILL, 9);
            int purse = readTold(Tape.PURSE, 999);
            int debt = readTold(Tape.DEBT, 999);
            int home = readTold(Tape.HOME, 9);
            int person = tape.fault == 0 ? draft.addPerson(name, kind, skill) : NONE;
            if (draft.has(person)) {
                draft.purses[person] = purse;
                draft.debts[person] = debt;
                draft.homes[person] = home;
            }
        }

        private long readNewName() {
            long name = tape.value();
            if (!tape.isName()) {
                tape.wrong(Tape.CANT_STAND);
            } else if (draft.named(name) != NONE) {
                tape.wrong(Tape.TOLD_ALREADY);
            }
            tape.advance();
            return name;
        }

        private int readKind() {
            int kind = tape.token() - Tape.PLAIN;
            if (kind < 0 || kind > Tape.MAYOR - Tape.PLAIN) {
                tape.wrong(Tape.CANT_STAND);
            }
            tape.advance();
            return kind;
        }

        private int readTold(int word, int most) {
            tape.expect(word);
            return tape.readNumber(most);
        }

        private void readBar() {
            tape.advance();
            int person = tape.readPerson(draft);
            int life = tape.isName() ? draft.named(tape.value()) : NONE;
            if (life != NONE && (life == person || draft.isBarred(person, life))) {
                tape.wrong(Tape.TOLD_ALREADY);
            }
            tape.readPerson(draft);
            if (tape.fault == 0) {
                draft.addBar(person, life);
            }
        }

        private void readSign() {
            if (draft.signTold) {
                tape.wrong(Tape.TOLD_ALREADY);
            }
            draft.sign = readTold(Tape.SIGN, MOST_COINS);
            draft.signTold = true;
        }

        private void readLaw(int law) {
            if (draft.laws.isTold(law)) {
                tape.wrong(Tape.TOLD_ALREADY);
            }
            tape.advance();
            factsKnown = law == Laws.GOOD ? Laws.FACTS_OF_GOOD : Laws.FACTS;
            int start = draft.laws.size;
            readJoined(this, AND_OR, 0);
            draft.laws.addLaw(law, start);
        }

        /** E, TEST, SUM and PRODUCT by their levels; within tells how many of not and ( ) stand around. */
        private static void readJoined(TownReader reader, int level, int within) {
            if (level > PRODUCT) {
                readPart(reader, within);
                return;
            }
            readJoined(reader, level + 1, within);
            int most = level == TEST ? 1 : Tape.MOST;
            for (int joined = 0; joined < most && levelOf(reader.tape.token()) == level; joined++) {
                int joins = reader.tape.token();
                reader.tape.advance();
                readJoined(reader, level + 1, within);
                reader.draft.laws.addCode(-joins);
            }
        }

        private static int levelOf(int token) {
            switch (token) {
                case Tape.AND:
                case Tape.OR:
                    return AND_OR;
                case '<':
                case '=':
                    return TEST;
                case '+':
                case '-':
                    return SUM;
                case '*':
                    return PRODUCT;
                default:
                    return NONE;
            }
        }

        private static void readPart(TownReader reader, int within) {
            Tape tape = reader.tape;
            Laws laws = reader.draft.laws;
            int token = tape.token();
            boolean fact = token >= Tape.FACT && token < Tape.FACT + reader.factsKnown;
            if (token != Tape.NUMBER && token != Tape.NOT && token != '(' && !fact) {
                tape.wrong(Tape.CANT_STAND);
                return;
            }
            if (within >= MOST_WITHIN) {
                tape.wrong(Tape.TOO_MANY);
                return;
            }
            int number = (int) tape.value();
            tape.advance();
            if (token == Tape.NUMBER) {
                laws.addCode(number);
            } else if (fact) {
                laws.addCode(-1 - (token - Tape.FACT));
            } else if (token == Tape.NOT) {
                readPart(reader, within + 1);
                laws.addCode(-Tape.NOT);
            } else {
                readJoined(reader, AND_OR, within + 1);
                tape.expect(')');
            }
        }
    }

    /** The lines of a YEAR. */
    private static final class Year {
        static final int MOST_LINES = 40;

        private int lines = 0;
        private final int[] words = new int[MOST_LINES];
        private final int[] first = new int[MOST_LINES];
        private final int[] second = new int[MOST_LINES];

        void copyFrom(Year other) {
            lines = other.lines;
            System.arraycopy(other.words, 0, words, 0, MOST_LINES);
            System.arraycopy(other.first, 0, first, 0, MOST_LINES);
            System.arraycopy(other.second, 0, second, 0, MOST_LINES);
        }

        int readFrom(Tape tape, Town town) {
            lines = 0;
            tape.takeAll();
            for (int line = 0; line <= MOST_LINES && tape.goesOn(); line++) {
                readLine(tape, town);
            }
            return tape.fault;
        }

        private void readLine(Tape tape, Town town) {
            int word = tape.token();
            if (word != Tape.HOME && (word < Tape.HIDE || word > Tape.DAY)) {
                tape.wrong(Tape.CANT_STAND);
                return;
            }
            if (lines < 0 || lines >= MOST_LINES) {
                tape.wrong(Tape.TOO_MANY);
                return;
            }
            tape.advance();
            words[lines] = word;
            first[lines] = word == Tape.LOT ? tape.readNumber(MOST_SEED)
                    : word == Tape.HIDE || word == Tape.SWAP ? tape.readPerson(town) : NONE;
            second[lines] = word == Tape.HIDE ? tape.readNumber(MOST_COINS)
                    : word == Tape.SWAP ? readOther(tape, town, first[lines]) : NONE;
            tape.expect(';');
            lines++;
        }

        private static int readOther(Tape tape, Town town, int person) {
            if (tape.isName() && town.named(tape.value()) == person && person != NONE) {
                tape.wrong(Tape.TOLD_ALREADY);
            }
            return tape.readPerson(town);
        }

        /** Lives the YEAR on lives from the begin: the first line that can't be, or NONE. */
        int judge(Lives lives, Lots lots) {
            lives.begin();
            int firstWrong = NONE;
            for (int line = 0; line < lines && line < MOST_LINES; line++) {
                if (!doLine(line, lives, lots) && firstWrong == NONE) {
                    firstWrong = line;
                }
            }
            return firstWrong;
        }

        private boolean doLine(int line, Lives lives, Lots lots) {
            switch (words[line]) {
                case Tape.HIDE:
                    return lives.hideCoins(first[line], second[line]);
                case Tape.LOT:
                    return lives.drawLot(lots, first[line]) != NONE;
                case Tape.SWAP:
                    return lives.changeLives(first[line], second[line]);
                case Tape.DAY:
                    return lives.nextDay();
                default:
                    return lives.goHome() != NONE;
            }
        }
    }

    /** All LOTS of a town, in their order. */
    private static final class Lots {
        /** How many ways there are for six to be nobody himself. */
        static final int MOST = 265;

        private int people = 0;
        private int count = 0;
        private final int[] selves = new int[MOST * MOST_PEOPLE];
        private final int[] row = new int[MOST_PEOPLE];

        void findAll(Town town) {
            people = town.people;
            count = 0;
            if (people > 0) {
                fill(this, town, 0, 0);
            }
        }

        private static void fill(Lots lots, Town town, int life, int taken) {
            if (life < 0 || life >= lots.people || life >= MOST_PEOPLE) {
                lots.keepRow();
                return;
            }
            for (int person = 0; person < lots.people; person++) {
                if ((taken >> person & 1) == 0 && town.allows(person, life)) {
                    lots.row[life] = person;
                    fill(lots, town, life + 1, taken | 1 << person);
                }
            }
        }

        private void keepRow() {
            if (count >= 0 && count < MOST) {
                System.arraycopy(row, 0, selves, count * MOST_PEOPLE, MOST_PEOPLE);
                count++;
            }
        }

        int selfIn(int place, int life) {
            boolean there = place >= 0 && place < count && place < MOST && life >= 0 && life < MOST_PEOPLE;
            return there ? selves[place * MOST_PEOPLE + life] : NONE;
        }

        int meanInThousandths(long sum) {
            return count > 0 ? (int) (sum * 1000 / count) : NONE;
        }

        /** The g of a DRAW, by the g of the one ahead or the SEED. */
        static long nextDraw(long g) {
            return (g * 1103515245L + 12345L) & 2147483647L;
        }

        static int drawBelow(long g, int below) {
            return below > 0 ? (int) (g / 65536 % below) : 0;
        }
    }

    /** How all LIVES are, who leads them, and what came of it. */
    private static final class Lives {
        private final Town town;
        private final int[] purse = new int[MOST_PEOPLE];
        private final int[] debt = new int[MOST_PEOPLE];
        private final int[] home = new int[MOST_PEOPLE];
        private final int[] hidden = new int[MOST_PEOPLE];
        private final int[] self = new int[MOST_PEOPLE];
        /** Purses less debts, and homes, when the LOT was drawn. */
        private final int[] worthThen = new int[MOST_PEOPLE];
        private final int[] homeThen = new int[MOST_PEOPLE];
        private boolean away = false;
        private int days = 0;
        private int homes = 0;
        private int harm = 0;

        Lives(Town town) {
            this.town = town;
        }

        void begin() {
            System.arraycopy(town.purses, 0, purse, 0, MOST_PEOPLE);
            System.arraycopy(town.debts, 0, debt, 0, MOST_PEOPLE);
            System.arraycopy(town.homes, 0, home, 0, MOST_PEOPLE);
            homes = 0;
            harm = 0;
            comeBack();
        }

        void copyFrom(Lives other) {
            System.arraycopy(other.purse, 0, purse, 0, MOST_PEOPLE);
            System.arraycopy(other.debt, 0, debt, 0, MOST_PEOPLE);
            System.arraycopy(other.home, 0, home, 0, MOST_PEOPLE);
            System.arraycopy(other.hidden, 0, hidden, 0, MOST_PEOPLE);
            System.arraycopy(other.self, 0, self, 0, MOST_PEOPLE);
            System.arraycopy(other.worthThen, 0, worthThen, 0, MOST_PEOPLE);
            System.arraycopy(other.homeThen, 0, homeThen, 0, MOST_PEOPLE);
            away = other.away;
            days = other.days;
            homes = other.homes;
            harm = other.harm;
        }

        boolean hideCoins(int life, int coins) {
            if (away || !town.has(life) || coins < 0 || coins > MOST_COINS || coins > purse[life]) {
                return false;
            }
            hidden[life] = coins;
            return true;
        }

        int drawLot(Lots lots, int seed) {
            if (away || lots.count <= 0) {
                return NONE;
            }
            int place = Lots.drawBelow(Lots.nextDraw(seed), lots.count);
            goAway(lots, place);
            return place;
        }

        void goAway(Lots lots, int place) {
            for (int life = 0; life < MOST_PEOPLE; life++) {
                self[life] = lots.selfIn(place, life);
                worthThen[life] = purse[life] - debt[life];
                homeThen[life] = home[life];
            }
            away = true;
            days = 0;
        }

        boolean changeLives(int person, int other) {
            int life = ledBy(person);
            int others = ledBy(other);
            boolean can = away && person != other && town.allows(person, others) && town.allows(other, life);
            if (can) {
                self[others] = person;
                self[life] = other;
            }
            return can;
        }

        /** The LIFE that a PERSON leads, or NONE. */
        int ledBy(int person) {
            for (int life = 0; life < town.people && life < MOST_PEOPLE; life++) {
                if (self[life] == person) {
                    return life;
                }
            }
            return NONE;
        }

        boolean nextDay() {
            if (!away || days >= MOST_DAYS) {
                return false;
            }
            passDays(1, town.sign);
            return true;
        }

        void passDays(int more, int sign) {
            for (int i = 0; i < more; i++) {
                for (int life = 0; life < town.people && life < MOST_PEOPLE; life++) {
                    spend(life, sign);
                    mend(life);
                }
                days++;
            }
        }

        private void spend(int life, int sign) {
            int who = self[life];
            int kind = town.kindOf(who);
            int money = kind == Town.THIEF ? purse[life] : openMoney(life);
            town.laws.setFacts(money, debt[life], home[life], town.skillOf(who), kind);
            int coins = Math.max(0, Math.min(town.laws.valueOf(Laws.SPENDS), Math.min(sign, money)));
            if (kind == Town.MISER) {
                coins /= 2;
            }
            purse[life] -= coins;
            if (kind == Town.THIEF) {
                gain(who, coins);
                return;
            }
            int paid = kind == Town.MAYOR ? Math.min(coins, debt[life]) : 0;
            debt[life] -= paid;
            gain(poorestBut(life), coins - paid);
        }

        private void mend(int life) {
            int who = self[life];
            int kind = town.kindOf(who);
            int money = kind == Town.THIEF ? purse[life] : openMoney(life);
            town.laws.setFacts(money, debt[life], home[life], town.skillOf(who), kind);
            int better = Math.max(-3, Math.min(3, town.laws.valueOf(Laws.MENDS)));
            home[life] = Math.max(0, Math.min(9, home[life] + better));
        }

        /** What a LIFE's purse shows: to all but a thief at work. */
        int openMoney(int life) {
            return town.has(life) ? Math.max(0, purse[life] - hidden[life]) : 0;
        }

        private void gain(int life, int coins) {
            if (town.has(life)) {
                purse[life] = Math.min(MOST_PURSE, purse[life] + coins);
            }
        }

        private int poorestBut(int life) {
            int poorest = NONE;
            for (int other = 0; other < town.people && other < MOST_PEOPLE; other++) {
                if (other != life && (poorest == NONE || purse[other] < purse[poorest])) {
                    poorest = other;
                }
            }
            return poorest;
        }

        /** HARM of all, or NONE for who is at home already. */
        int goHome() {
            if (!away) {
                return NONE;
            }
            int done = harmOfAll();
            harm += done;
            homes++;
            comeBack();
            return done;
        }

        private void comeBack() {
            for (int life = 0; life < MOST_PEOPLE; life++) {
                self[life] = life;
                hidden[life] = 0;
            }
            away = false;
            days = 0;
        }

        int harmOf(int life) {
            if (!away || !town.has(life)) {
                return 0;
            }
            return Math.max(0, worthThen[life] - (purse[life] - debt[life]))
                    + 5 * Math.max(0, homeThen[life] - home[life]);
        }

        int goodOf(int life) {
            if (!away || !town.has(life)) {
                return 0;
            }
            return Math.max(0, purse[life] - debt[life] - worthThen[life])
                    + 5 * Math.max(0, home[life] - homeThen[life]);
        }

        int harmOfAll() {
            int sum = 0;
            for (int life = 0; life < town.people; life++) {
                sum += harmOf(life);
            }
            return sum;
        }

        int goodOfAll() {
            int sum = 0;
            for (int life = 0; life < town.people; life++) {
                sum += goodOf(life);
            }
            return sum;
        }

        int sumOf(int[] row) {
            int sum = 0;
            for (int life = 0; life < town.people && life < row.length; life++) {
                sum += row[life];
            }
            return sum;
        }
    }

    /** What purses are said to have held. */
    private static final class Tales {
        static final int MOST = 8;

        private int count = 0;
        private final int[] lives = new int[MOST];
        private final int[] days = new int[MOST];
        private final int[] purses = new int[MOST];

        void copyFrom(Tales other) {
            count = other.count;
            System.arraycopy(other.lives, 0, lives, 0, MOST);
            System.arraycopy(other.days, 0, days, 0, MOST);
            System.arraycopy(other.purses, 0, purses, 0, MOST);
        }

        boolean add(int life, int day, int purse) {
            if (count < 0 || count >= MOST || day < 1 || day > MOST_DAYS || purse < 0 || purse > MOST_PURSE) {
                return false;
            }
            lives[count] = life;
            days[count] = day;
            purses[count] = purse;
            count++;
            return true;
        }
    }

    /** What would come of a LOT drawn now, or of years from now on. */
    private static final class Forecast {
        private static final int PURSES = MOST_DAYS * MOST_PEOPLE;
        private static final int STEP = 25;
        private static final int SELDOM = 3;
        private static final int HIDES = 20;
        /** More HARM than there can be. */
        private static final long BEYOND = 1000000000000L;

        private final Town town;
        private final Lots lots;
        private final Lives now;
        private final Lives then;
        /** Whether held and harms are those of how it is now. */
        private boolean ready = false;
        /** The LIFE whose best hiding is known as it is now, or NONE. */
        private int prepared = NONE;
        private final int[] held = new int[Lots.MOST * PURSES];
        private final int[] harms = new int[Lots.MOST];
        private final boolean[] fitting = new boolean[Lots.MOST];
        private final int[] tally = new int[MOST_PURSE + 1];
        private int bestCoins = 0;
        private long bestHarm = 0;
        private int yearsHarm = 0;
        private int yearsGood = 0;
        private int yearsPurses = 0;

        Forecast(Town town, Lots lots, Lives now) {
            this.town = town;
            this.lots = lots;
            this.now = now;
            this.then = new Lives(town);
        }

        /** To be called whenever it is no more as it was. */
        void forget() {
            ready = false;
            prepared = NONE;
        }

        private void foresee() {
            if (ready) {
                return;
            }
            for (int place = 0; place < lots.count && place < Lots.MOST; place++) {
                then.copyFrom(now);
                then.goAway(lots, place);
                for (int day = 0; day < MOST_DAYS; day++) {
                    then.passDays(1, town.sign);
                    System.arraycopy(then.purse, 0, held, place * PURSES + day * MOST_PEOPLE, MOST_PEOPLE);
                }
                harms[place] = then.harmOfAll();
            }
            ready = true;
        }

        /** What the purse of a LIFE holds behind a DAY, by a LOT. */
        private int heldBy(int place, int life, int day) {
            boolean there = place >= 0 && place < Lots.MOST && life >= 0 && life < MOST_PEOPLE
                    && day >= 1 && day <= MOST_DAYS;
            return there ? held[place * PURSES + (day - 1) * MOST_PEOPLE + life] : NONE;
        }

        int leastHarmful() {
            foresee();
            int least = 0;
            for (int place = 1; place < lots.count && place < Lots.MOST; place++) {
                if (harms[place] < harmBy(least)) {
                    least = place;
                }
            }
            return least;
        }

        int harmBy(int place) {
            return place >= 0 && place < Lots.MOST ? harms[place] : 0;
        }

        void seekHiding(int life) {
            if (!town.has(life) || life == prepared) {
                return;
            }
            prepared = life;
            bestCoins = 0;
            bestHarm = BEYOND;
            for (int coins = 0; coins <= now.purse[life] && coins <= MOST_PURSE; coins += STEP) {
                long harm = ownHarm(life, coins, bestHarm);
                if (harm < bestHarm) {
                    bestCoins = coins;
                    bestHarm = harm;
                }
            }
        }

        /** The HARM of a LIFE by all LOTS; no LOT is looked at when it is enough, as HARM gets no less by another. */
        private long ownHarm(int life, int coins, long enough) {
            long sum = 0;
            for (int place = 0; place < lots.count && sum < enough; place++) {
                then.copyFrom(now);
                if (town.has(life)) {
                    then.hidden[life] = coins;
                }
                then.goAway(lots, place);
                then.passDays(MOST_DAYS, town.sign);
                sum += then.harmOf(life);
            }
            return sum;
        }

        long harmBySign(int sign) {
            long sum = 0;
            for (int place = 0; place < lots.count; place++) {
                then.copyFrom(now);
                then.goAway(lots, place);
                then.passDays(MOST_DAYS, sign);
                sum += then.harmOfAll();
            }
            return sum;
        }

        int countFitting(Tales tales) {
            foresee();
            int count = 0;
            for (int place = 0; place < lots.count && place < Lots.MOST; place++) {
                fitting[place] = fits(place, tales);
                if (fitting[place]) {
                    count++;
                }
            }
            return count;
        }

        private boolean fits(int place, Tales tales) {
            for (int i = 0; i < tales.count && i < Tales.MOST; i++) {
                if (heldBy(place, tales.lives[i], tales.days[i]) != tales.purses[i]) {
                    return false;
                }
            }
            return true;
        }

        /** The SELF of a LIFE in all LOTS that fit, or NONE when they differ. */
        int onlySelf(int life) {
            int only = NONE;
            for (int place = 0; place < lots.count && place < Lots.MOST; place++) {
                int self = lots.selfIn(place, life);
                if (fitting[place] && only != NONE && self != only) {
                    return NONE;
                }
                if (fitting[place]) {
                    only = self;
                }
            }
            return only;
        }

        /** The purse to ask for, by the LOTS that fit, of which there are all. */
        int bestQuestion(int all) {
            int least = all;
            int best = NONE;
            for (int life = 0; life < town.people; life++) {
                for (int day = 1; day <= MOST_DAYS; day++) {
                    int most = mostAlike(life, day);
                    if (most < least) {
                        least = most;
                        best = life * 8 + day;
                    }
                }
            }
            return best;
        }

        private int mostAlike(int life, int day) {
            int most = 0;
            for (int place = 0; place < lots.count && place < Lots.MOST; place++) {
                int purse = heldBy(place, life, day);
                if (fitting[place] && purse >= 0 && purse < tally.length) {
                    tally[purse]++;
                    most = Math.max(most, tally[purse]);
                }
            }
            for (int place = 0; place < lots.count && place < Lots.MOST; place++) {
                int purse = heldBy(place, life, day);
                if (purse >= 0 && purse < tally.length) {
                    tally[purse] = 0;
                }
            }
            return most;
        }

        void passYears(int seed, int years) {
            yearsHarm = 0;
            yearsGood = 0;
            long g = seed;
            then.copyFrom(now);
            then.goHome();
            for (int year = 0; year < years; year++) {
                g = hideByDraws(g);
                if (lots.count > 0) {
                    g = Lots.nextDraw(g);
                    then.goAway(lots, Lots.drawBelow(g, lots.count));
                    then.passDays(MOST_DAYS, town.sign);
                    yearsGood += then.goodOfAll();
                    yearsHarm += then.goHome();
                }
                Arrays.fill(then.hidden, 0);
            }
            yearsPurses = then.sumOf(then.purse);
        }

        private long hideByDraws(long seed) {
            long g = seed;
            for (int life = 0; life < town.people && life < MOST_PEOPLE; life++) {
                g = Lots.nextDraw(g);
                if (Lots.drawBelow(g, SELDOM) == 0 && then.purse[life] >= HIDES) {
                    then.hidden[life] = HIDES;
                }
            }
            return g;
        }
    }

    /** What somebody should do in a LIFE, day by day. */
    private static final class Deeds {
        private static final int SAVE = 0;
        private static final int PAY = 1;
        private static final int KINDS = 3;

        private int bestGood = 0;
        private int bestRow = 0;

        /** Rows of deeds are numbers with a digit for each day, so that they come in their order. */
        void seek(Lives lives, int person, int life, int days) {
            int rows = rowsOf(days);
            for (int row = 0; row < rows; row++) {
                int good = goodBy(row, lives, person, life, days);
                if (row == 0 || good > bestGood) {
                    bestGood = good;
                    bestRow = row;
                }
            }
        }

        int deedOf(int days, int day) {
            return deedIn(bestRow, days, day);
        }

        private static int deedIn(int row, int days, int day) {
            int unit = rowsOf(days - 1 - day);
            return unit > 0 ? row / unit % KINDS : SAVE;
        }

        private static int rowsOf(int days) {
            int rows = 1;
            for (int day = 0; day < days && day < MOST_DAYS; day++) {
                rows *= KINDS;
            }
            return rows;
        }

        private static int goodBy(int row, Lives lives, int person, int life, int days) {
            Town town = lives.town;
            if (!town.has(life)) {
                return 0;
            }
            int skill = town.skillOf(person);
            int purse = lives.purse[life];
            int debt = lives.debt[life];
            int home = lives.home[life];
            for (int day = 0; day < days; day++) {
                int deed = deedIn(row, days, day);
                if (deed == SAVE) {
                    purse = Math.min(MOST_PURSE, purse + skill);
                } else if (deed == PAY) {
                    int paid = Math.min(10, Math.min(debt, purse));
                    debt -= paid;
                    purse -= paid;
                } else {
                    home = Math.min(9, home + (skill > 4 ? 2 : 1));
                }
            }
            int money = Math.max(0, purse - lives.hidden[life]);
            town.laws.setFacts(money, debt, home, skill, town.kindOf(person));
            return town.laws.valueOf(Laws.GOOD);
        }
    }

    /** Who would change LIVES with whom for good. */
    private static final class Pairs {
        private int people = 0;
        /** Of each PERSON a bit for each one with whom he would change, if that one would, too. */
        private final int[] willing = new int[MOST_PEOPLE];
        private final int[] row = new int[MOST_PEOPLE];
        private final int[] best = new int[MOST_PEOPLE];
        private int most = 0;

        void seek(Lives lives) {
            people = Math.min(lives.town.people, MOST_PEOPLE);
            for (int person = 0; person < people; person++) {
                willing[person] = 0;
                for (int other = 0; other < people; other++) {
                    if (wouldRather(lives, person, other) && wouldRather(lives, other, person)) {
                        willing[person] |= 1 << other;
                    }
                }
            }
            most = NONE;
            pairFrom(this, 0, 0, 0);
        }

        private static boolean wouldRather(Lives lives, int person, int other) {
            return person != other && wish(lives, person, other) > wish(lives, person, person);
        }

        private static int wish(Lives lives, int person, int life) {
            Town town = lives.town;
            if (!town.has(life)) {
                return 0;
            }
            town.laws.setFacts(lives.openMoney(life), lives.debt[life], lives.home[life],
                    town.skillOf(person), town.kindOf(person));
            return town.laws.valueOf(Laws.WISH);
        }

        /** Goes through the rows in their order, so that of equal ones the first stays. */
        private static void pairFrom(Pairs pairs, int person, int taken, int made) {
            if (person < 0 || person >= pairs.people || person >= MOST_PEOPLE) {
                pairs.keepRow(made);
                return;
            }
            if ((taken >> person & 1) != 0) {
                pairFrom(pairs, person + 1, taken, made);
                return;
            }
            for (int other = person + 1; other < pairs.people; other++) {
                if ((pairs.willing[person] >> other & 1) != 0 && (taken >> other & 1) == 0) {
                    pairs.row[person] = other;
                    pairs.row[other] = person;
                    pairFrom(pairs, person + 1, taken | 1 << person | 1 << other, made + 1);
                }
            }
            pairs.row[person] = NONE;
            pairFrom(pairs, person + 1, taken, made);
        }

        private void keepRow(int made) {
            if (made > most) {
                most = made;
                System.arraycopy(row, 0, best, 0, MOST_PEOPLE);
            }
        }
    }
}
