import java.util.ArrayDeque;
import java.util.ArrayList;
import java.util.Arrays;
import java.util.HashMap;
import java.util.HashSet;
import java.util.List;
import java.util.Map;
import java.util.NoSuchElementException;
import java.util.Set;
import java.util.TreeMap;
import java.util.regex.Matcher;
import java.util.regex.Pattern;

/** The document once more, as plainly as it can be written with the whole library: ModelTest compares it with the class. */
final class Model {
    static final List<String> RESERVED = List.of("person", "skill", "purse", "debt", "home", "bar", "sign", "spends",
            "mends", "good", "wish", "hide", "lot", "swap", "day", "plain", "miser", "thief", "mayor", "not", "and", "or");
    static final List<String> KINDS = List.of("plain", "miser", "thief", "mayor");

    interface E {
        int by(Map<String, Integer> facts);
    }

    static final class Fault extends RuntimeException {
        final int answer;

        Fault(int kind, int place) {
            answer = kind + 16 * place;
        }
    }

    record Token(String sort, String text, int place) { }

    record Person(String name, int kind, int skill, int purse, int debt, int home) { }

    record Tale(int life, int day, int purse) { }

    static final class Town {
        final List<Person> people = new ArrayList<>();
        final Set<List<Integer>> bars = new HashSet<>();
        final Map<String, E> laws = new HashMap<>();
        Integer sign;

        int sign() {
            return sign == null ? 50 : sign;
        }

        boolean may(int p, int l) {
            int n = people.size();
            return p >= 0 && p < n && l >= 0 && l < n && p != l && !bars.contains(List.of(p, l));
        }

        int find(String name) {
            for (int i = 0; i < people.size(); i++) {
                if (people.get(i).name.equals(name)) {
                    return i;
                }
            }
            return -1;
        }
    }

    static final class State implements Cloneable {
        int[] purse = {}, debt = {}, home = {}, hidden = {};
        int[] self;                        // null at home
        State then;                        // as it was when the LOT was drawn
        int days, harm, homes;

        State copy() {
            State s = new State();
            s.purse = purse.clone();
            s.debt = debt.clone();
            s.home = home.clone();
            s.hidden = hidden.clone();
            s.self = self == null ? null : self.clone();
            s.then = then;
            s.days = days;
            s.harm = harm;
            s.homes = homes;
            return s;
        }
    }

    final StringBuilder tape = new StringBuilder();
    Town town = new Town();
    List<String[]> plan = new ArrayList<>();
    State now = new State();
    ArrayDeque<State> undos = new ArrayDeque<>();
    List<Tale> tales = new ArrayList<>();
    Map<Integer, State> marks = new HashMap<>();
    Map<Integer, List<Tale>> markTales = new HashMap<>();

    // ---- reading

    final class Reader {
        final List<Token> tokens = new ArrayList<>();
        int at;
        Town into = new Town();

        Reader() {
            Matcher m = Pattern.compile("[a-z]+|[0-9]+|.", Pattern.DOTALL).matcher(tape);
            while (m.find()) {
                String t = m.group();
                if (t.isBlank()) {
                    continue;
                }
                String sort = t.matches("[a-z]{1,8}") ? "word" : t.matches("[0-9]{1,4}") ? "number"
                        : t.matches("[()<=+*;-]") ? "sign" : "none";
                tokens.add(new Token(sort, t, m.start()));
            }
            tokens.add(new Token("end", "", tape.length()));
            tape.setLength(0);
        }

        Token peek() {
            return tokens.get(at);
        }

        boolean sees(String text) {
            return peek().text.equals(text) && !peek().sort.equals("none");
        }

        Fault wrong(int kind) {
            return new Fault(kind, peek().place);
        }

        void take(String text) {
            if (!sees(text)) {
                throw wrong(1);
            }
            at++;
        }

        int number(int most) {
            if (!peek().sort.equals("number")) {
                throw wrong(1);
            }
            int n = Integer.parseInt(peek().text);
            if (n > most) {
                throw wrong(4);
            }
            at++;
            return n;
        }

        String nameHere() {
            if (!peek().sort.equals("word") || RESERVED.contains(peek().text)) {
                throw wrong(1);
            }
            return peek().text;
        }

        int known(Town t, int not) {
            int p = t.find(nameHere());
            if (p < 0) {
                throw wrong(2);
            }
            if (p == not) {
                throw wrong(3);
            }
            at++;
            return p;
        }

        Town town() {
            while (!peek().sort.equals("end")) {
                String word = peek().text;
                switch (word) {
                    case "person" -> personLine();
                    case "bar" -> bar();
                    case "sign" -> {
                        if (into.sign != null) {
                            throw wrong(3);
                        }
                        at++;
                        into.sign = number(999);
                    }
                    case "spends", "mends", "good", "wish" -> {
                        if (into.laws.containsKey(word)) {
                            throw wrong(3);
                        }
                        at++;
                        Set<String> facts = word.equals("good") ? Set.of("money", "owed", "neat")
                                : Set.of("money", "owed", "neat", "able", "trade");
                        into.laws.put(word, e(facts, 0));
                    }
                    default -> throw wrong(1);
                }
                take(";");
            }
            return into;
        }

        void personLine() {
            if (into.people.size() == 6) {
                throw wrong(5);
            }
            at++;
            String name = nameHere();
            if (into.find(name) >= 0) {
                throw wrong(3);
            }
            at++;
            int kind = peek().sort.equals("word") ? KINDS.indexOf(peek().text) : -1;
            if (kind < 0) {
                throw wrong(1);
            }
            at++;
            take("skill");
            int skill = number(9);
            take("purse");
            int purse = number(999);
            take("debt");
            int debt = number(999);
            take("home");
            into.people.add(new Person(name, kind, skill, purse, debt, number(9)));
        }

        void bar() {
            at++;
            int p = known(into, -1);
            Token second = peek();
            int l = known(into, p);
            if (!into.bars.add(List.of(p, l))) {
                throw new Fault(3, second.place);
            }
        }

        E e(Set<String> facts, int within) {
            E left = test(facts, within);
            while (sees("and") || sees("or")) {
                boolean and = sees("and");
                at++;
                E a = left;
                E b = test(facts, within);
                left = f -> (and ? a.by(f) != 0 & b.by(f) != 0 : a.by(f) != 0 | b.by(f) != 0) ? 1 : 0;
            }
            return left;
        }

        E test(Set<String> facts, int within) {
            E a = sum(facts, within);
            if (sees("<")) {
                at++;
                E b = sum(facts, within);
                return f -> a.by(f) < b.by(f) ? 1 : 0;
            }
            if (sees("=")) {
                at++;
                E b = sum(facts, within);
                return f -> a.by(f) == b.by(f) ? 1 : 0;
            }
            return a;
        }

        E sum(Set<String> facts, int within) {
            E left = product(facts, within);
            while (sees("+") || sees("-")) {
                int way = sees("+") ? 1 : -1;
                at++;
                E a = left;
                E b = product(facts, within);
                left = f -> a.by(f) + way * b.by(f);
            }
            return left;
        }

        E product(Set<String> facts, int within) {
            E left = part(facts, within);
            while (sees("*")) {
                at++;
                E a = left;
                E b = part(facts, within);
                left = f -> a.by(f) * b.by(f);
            }
            return left;
        }

        E part(Set<String> facts, int within) {
            Token t = peek();
            boolean number = t.sort.equals("number");
            if (!number && !sees("not") && !sees("(") && !facts.contains(t.text)) {
                throw wrong(1);
            }
            if (within == 5) {
                throw wrong(5);
            }
            at++;
            if (number) {
                int n = Integer.parseInt(t.text);
                return f -> n;
            }
            if (t.text.equals("not")) {
                E a = part(facts, within + 1);
                return f -> a.by(f) == 0 ? 1 : 0;
            }
            if (t.text.equals("(")) {
                E a = e(facts, within + 1);
                take(")");
                return a;
            }
            return f -> f.get(t.text);
        }

        List<String[]> year() {
            List<String[]> lines = new ArrayList<>();
            while (!peek().sort.equals("end")) {
                String word = peek().text;
                if (!List.of("hide", "lot", "swap", "day", "home").contains(word)) {
                    throw wrong(1);
                }
                if (lines.size() == 40) {
                    throw wrong(5);
                }
                at++;
                int a = 0;
                int b = 0;
                if (word.equals("hide")) {
                    a = known(town, -1);
                    b = number(999);
                } else if (word.equals("lot")) {
                    a = number(9999);
                } else if (word.equals("swap")) {
                    a = known(town, -1);
                    b = known(town, a);
                }
                take(";");
                lines.add(new String[] {word, "" + a, "" + b});
            }
            return lines;
        }
    }

    int feed(long a, long b, long c) {
        for (long x : new long[] {a, b, c}) {
            for (byte y : java.nio.ByteBuffer.allocate(8).putLong(x).array()) {
                if ((y == 10 || y >= 32 && y <= 126) && tape.length() < 1000) {
                    tape.append((char) y);
                }
            }
        }
        return tape.length();
    }

    int town() {
        try {
            town = new Reader().town();
        } catch (Fault f) {
            return f.answer;
        }
        plan = new ArrayList<>();
        now = begin();
        undos.clear();
        tales = new ArrayList<>();
        marks.clear();
        markTales.clear();
        return 0;
    }

    int year() {
        try {
            plan = new Reader().year();
        } catch (Fault f) {
            return f.answer;
        }
        return 0;
    }

    // ---- by hand

    int n() {
        return town.people.size();
    }

    boolean is(int p) {
        return p >= 0 && p < n();
    }

    State begin() {
        State s = new State();
        s.purse = town.people.stream().mapToInt(Person::purse).toArray();
        s.debt = town.people.stream().mapToInt(Person::debt).toArray();
        s.home = town.people.stream().mapToInt(Person::home).toArray();
        s.hidden = new int[n()];
        return s;
    }

    int ask(String law, State s, int life, int who, boolean finds) {
        Person p = town.people.get(who);
        int money = finds ? s.purse[life] : Math.max(0, s.purse[life] - s.hidden[life]);
        return value(law, money, s.debt[life], s.home[life], p);
    }

    int value(String law, int money, int owed, int neat, Person p) {
        if (town.laws.containsKey(law)) {
            return town.laws.get(law).by(Map.of("money", money, "owed", owed, "neat", neat, "able", p.skill, "trade", p.kind));
        }
        return switch (law) {
            case "spends" -> p.skill * 2;
            case "mends" -> p.skill > 4 ? 1 : p.skill < 3 ? -1 : 0;
            case "good" -> money - owed * 2 + neat * 10;
            default -> money - owed + neat * 5;
        };
    }

    void oneDay(State s, int sign) {
        for (int l = 0; l < n(); l++) {
            int who = s.self[l];
            int kind = town.people.get(who).kind;
            boolean thief = kind == 2;
            int money = thief ? s.purse[l] : Math.max(0, s.purse[l] - s.hidden[l]);
            int spent = ask("spends", s, l, who, thief);
            spent = Math.min(Math.min(spent, sign), money);
            spent = Math.max(0, spent);
            if (kind == 1) {
                spent = spent / 2;
            }
            s.purse[l] -= spent;
            int to = who;
            if (!thief) {
                while (kind == 3 && spent > 0 && s.debt[l] > 0) {
                    spent--;
                    s.debt[l]--;
                }
                to = l == 0 ? 1 : 0;
                for (int o = 0; o < n(); o++) {
                    if (o != l && s.purse[o] < s.purse[to]) {
                        to = o;
                    }
                }
            }
            s.purse[to] = Math.min(9999, s.purse[to] + spent);
            int mend = ask("mends", s, l, who, thief);
            s.home[l] += mend > 3 ? 3 : mend < -3 ? -3 : mend;
            s.home[l] = s.home[l] > 9 ? 9 : s.home[l] < 0 ? 0 : s.home[l];
        }
        s.days++;
    }

    List<int[]> allLots() {
        List<int[]> out = new ArrayList<>();
        int n = n();
        long most = 1;
        for (int i = 0; i < n; i++) {
            most *= n;
        }
        for (long code = 0; code < most && n > 0; code++) {
            int[] row = new int[n];
            long c = code;
            boolean good = true;
            Set<Integer> seen = new HashSet<>();
            for (int i = n - 1; i >= 0; i--) {
                row[i] = (int) (c % n);
                c /= n;
                good &= seen.add(row[i]) && town.may(row[i], i);
            }
            if (good) {
                out.add(row);
            }
        }
        return out;
    }

    void away(State s, int[] lot) {
        s.then = s.copy();
        s.self = lot.clone();
        s.days = 0;
    }

    int harm(State s, int l, int way) {
        if (s.self == null) {
            return 0;
        }
        int worse = (s.then.purse[l] - s.then.debt[l]) - (s.purse[l] - s.debt[l]);
        int shabby = s.then.home[l] - s.home[l];
        return Math.max(0, way * worse) + 5 * Math.max(0, way * shabby);
    }

    int all(State s, int way) {
        int sum = 0;
        for (int l = 0; l < n(); l++) {
            sum += harm(s, l, way);
        }
        return sum;
    }

    boolean doHide(State s, int l, int c) {
        if (s.self != null || !is(l) || c < 0 || c > 999 || s.purse[l] < c) {
            return false;
        }
        s.hidden[l] = c;
        return true;
    }

    int doLot(State s, int seed) {
        List<int[]> lots = allLots();
        if (s.self != null || lots.isEmpty() || seed < 0 || seed > 9999) {
            return -1;
        }
        long g = (seed * 1103515245L + 12345) % 2147483648L;
        int at = (int) (g / 65536 % lots.size());
        away(s, lots.get(at));
        return at;
    }

    boolean doSwap(State s, int p, int o) {
        if (s.self == null || !is(p) || !is(o) || p == o) {
            return false;
        }
        int[] row = s.self.clone();
        for (int l = 0; l < n(); l++) {
            row[l] = s.self[l] == p ? o : s.self[l] == o ? p : s.self[l];
        }
        if (allLots().stream().noneMatch(r -> Arrays.equals(r, row))) {
            return false;
        }
        s.self = row;
        return true;
    }

    boolean doDay(State s) {
        if (s.self == null || s.days == 7) {
            return false;
        }
        oneDay(s, town.sign());
        return true;
    }

    int doHome(State s) {
        if (s.self == null) {
            return -1;
        }
        int h = all(s, 1);
        s.harm += h;
        s.homes++;
        s.self = null;
        s.days = 0;
        s.hidden = new int[n()];
        return h;
    }

    void keep(State before) {
        undos.addLast(before);
        if (undos.size() > 16) {
            undos.removeFirst();
        }
    }

    int person(int p, int what) {
        if (!is(p) || what < 0 || what > 2) {
            return -1;
        }
        if (what == 2) {
            for (int l = 0; now.self != null && l < n(); l++) {
                if (now.self[l] == p) {
                    return l;
                }
            }
            return p;
        }
        return what == 0 ? town.people.get(p).kind : town.people.get(p).skill;
    }

    int life(int l, int what) {
        if (!is(l)) {
            return -1;
        }
        return switch (what) {
            case 0 -> now.purse[l];
            case 1 -> now.debt[l];
            case 2 -> now.home[l];
            case 3 -> now.hidden[l];
            case 4 -> now.self == null ? l : now.self[l];
            case 5 -> harm(now, l, 1);
            case 6 -> harm(now, l, -1);
            default -> -1;
        };
    }

    boolean may(int p, int l) {
        return town.may(p, l);
    }

    boolean hide(int l, int c) {
        State before = now.copy();
        boolean did = doHide(now, l, c);
        if (did) {
            keep(before);
        }
        return did;
    }

    int lot(int seed) {
        State before = now.copy();
        int did = doLot(now, seed);
        if (did >= 0) {
            keep(before);
        }
        return did;
    }

    boolean swap(int p, int o) {
        State before = now.copy();
        boolean did = doSwap(now, p, o);
        if (did) {
            keep(before);
        }
        return did;
    }

    int day() {
        State before = now.copy();
        if (!doDay(now)) {
            return -1;
        }
        keep(before);
        return now.days;
    }

    int home() {
        State before = now.copy();
        int did = doHome(now);
        if (did >= 0) {
            keep(before);
        }
        return did;
    }

    boolean undo() {
        if (undos.isEmpty()) {
            return false;
        }
        now = undos.removeLast();
        return true;
    }

    int judged(int what) {
        State s = begin();
        int first = -1;
        for (int i = 0; i < plan.size(); i++) {
            int a = Integer.parseInt(plan.get(i)[1]);
            int b = Integer.parseInt(plan.get(i)[2]);
            boolean did = switch (plan.get(i)[0]) {
                case "hide" -> doHide(s, a, b);
                case "lot" -> doLot(s, a) >= 0;
                case "swap" -> doSwap(s, a, b);
                case "day" -> doDay(s);
                default -> doHome(s) >= 0;
            };
            if (!did && first < 0) {
                first = i;
            }
        }
        return what == 0 ? first : what == 1 ? s.homes : what == 2 ? s.harm : -2;
    }

    // ---- as if

    int lots() {
        return allLots().size();
    }

    State week(int[] lot, int sign, int days, int life, int hidden) {
        State s = now.copy();
        if (life >= 0) {
            s.hidden[life] = hidden;
        }
        away(s, lot);
        for (int d = 0; d < days; d++) {
            oneDay(s, sign);
        }
        return s;
    }

    int odds(int p, int l) {
        List<int[]> lots = allLots();
        if (!is(p) || !is(l) || lots.isEmpty()) {
            return -1;
        }
        return (int) (lots.stream().filter(r -> r[l] == p).count() * 1000000L / lots.size());
    }

    int least(int life) {
        List<int[]> lots = allLots();
        if (lots.isEmpty() || life != -1 && !is(life)) {
            return -2;
        }
        TreeMap<Integer, int[]> byHarm = new TreeMap<>();
        for (int[] lot : lots) {
            byHarm.putIfAbsent(all(week(lot, town.sign(), 7, -1, 0), 1), lot);
        }
        return life == -1 ? byHarm.firstKey() : byHarm.firstEntry().getValue()[life];
    }

    int prepare(int life, int what) {
        List<int[]> lots = allLots();
        if (lots.isEmpty() || !is(life) || what < 0 || what > 1) {
            return -1;
        }
        TreeMap<Long, Integer> byHarm = new TreeMap<>();
        for (int c = 0; c <= now.purse[life]; c += 25) {
            long sum = 0;
            for (int[] lot : lots) {
                sum += harm(week(lot, town.sign(), 7, life, c), life, 1);
            }
            byHarm.putIfAbsent(sum, c);
        }
        return what == 0 ? byHarm.firstEntry().getValue() : (int) (byHarm.firstKey() * 1000 / lots.size());
    }

    private List<Integer> bestDeeds;
    private int bestGood;

    int deeds(int p, int l, int days, int what) {
        if (!is(p) || !is(l) || days < 1 || days > 7 || what < -1 || what >= days) {
            throw new NoSuchElementException();
        }
        bestDeeds = null;
        tryDeeds(p, l, days, new ArrayList<>(), now.purse[l], now.debt[l], now.home[l]);
        return what == -1 ? bestGood : bestDeeds.get(what);
    }

    private void tryDeeds(int p, int l, int days, List<Integer> done, int purse, int debt, int home) {
        Person who = town.people.get(p);
        if (done.size() == days) {
            int good = value("good", Math.max(0, purse - now.hidden[l]), debt, home, who);
            if (bestDeeds == null || good > bestGood) {
                bestDeeds = new ArrayList<>(done);
                bestGood = good;
            }
            return;
        }
        int pay = Math.min(10, Math.min(debt, purse));
        int[][] next = {{Math.min(9999, purse + who.skill), debt, home}, {purse - pay, debt - pay, home},
            {purse, debt, Math.min(9, home + (who.skill > 4 ? 2 : 1))}};
        for (int deed = 0; deed < 3; deed++) {
            done.add(deed);
            tryDeeds(p, l, days, done, next[deed][0], next[deed][1], next[deed][2]);
            done.remove(done.size() - 1);
        }
    }

    int pairs(int person) {
        if (person != -1 && !is(person)) {
            return -2;
        }
        int n = n();
        int most = -1;
        int[] best = null;
        long codes = 1;
        for (int i = 0; i < n; i++) {
            codes *= n + 1;
        }
        for (long code = 0; code < codes; code++) {
            int[] row = new int[n];
            long c = code;
            for (int i = n - 1; i >= 0; i--) {
                row[i] = (int) (c % (n + 1));
                c /= n + 1;
            }
            int paired = 0;
            boolean good = true;
            for (int i = 0; i < n && good; i++) {
                if (row[i] < n) {
                    paired++;
                    good = row[i] != i && row[row[i]] == i
                            && ask("wish", now, row[i], i, false) > ask("wish", now, i, i, false);
                }
            }
            if (good && paired / 2 > most) {
                most = paired / 2;
                best = row;
            }
        }
        return person == -1 ? most : best[person] == n ? -1 : best[person];
    }

    boolean tale(int l, int d, int purse) {
        if (!is(l) || d < 1 || d > 7 || purse < 0 || purse > 9999 || tales.size() == 8) {
            return false;
        }
        tales.add(new Tale(l, d, purse));
        return true;
    }

    List<int[]> fitting() {
        List<int[]> out = new ArrayList<>();
        for (int[] lot : allLots()) {
            boolean fits = true;
            for (Tale t : tales) {
                fits &= week(lot, town.sign(), t.day, -1, 0).purse[t.life] == t.purse;
            }
            if (fits) {
                out.add(lot);
            }
        }
        return out;
    }

    int how() {
        return fitting().size();
    }

    int who(int life) {
        Set<Integer> selves = new HashSet<>();
        if (is(life)) {
            fitting().forEach(r -> selves.add(r[life]));
        }
        return selves.size() == 1 ? selves.iterator().next() : -1;
    }

    int ask() {
        List<int[]> lots = fitting();
        int best = lots.size();
        int at = -1;
        for (int l = 0; l < n(); l++) {
            for (int d = 1; d <= 7; d++) {
                Map<Integer, Integer> groups = new HashMap<>();
                for (int[] lot : lots) {
                    groups.merge(week(lot, town.sign(), d, -1, 0).purse[l], 1, Integer::sum);
                }
                int most = groups.values().stream().mapToInt(x -> x).max().orElse(0);
                if (most < best) {
                    best = most;
                    at = l * 8 + d;
                }
            }
        }
        return at;
    }

    int law(int sign) {
        List<int[]> lots = allLots();
        if (lots.isEmpty() || sign < 0 || sign > 999) {
            return -1;
        }
        long sum = 0;
        for (int[] lot : lots) {
            sum += all(week(lot, sign, 7, -1, 0), 1);
        }
        return (int) (sum * 1000 / lots.size());
    }

    int rests(int gets, int both, int loses, int what) {
        List<Integer> found = new ArrayList<>();
        int[][] got = new int[6][6];
        for (int mine = 0; mine < 6; mine++) {
            for (int his = 0; his < 6; his++) {
                got[mine][his] = gets * his + both * (mine < his ? mine : his) - loses * mine * mine;
            }
        }
        for (int x = 0; x < 6; x++) {
            for (int y = 0; y < 6; y++) {
                boolean rest = true;
                for (int z = 0; z < 6; z++) {
                    rest &= got[z][y] <= got[x][y] && got[z][x] <= got[y][x];
                }
                if (rest) {
                    found.add(10 * x + y);
                }
            }
        }
        for (int a : new int[] {gets, both, loses}) {
            if (a < 0 || a > 9) {
                throw new NoSuchElementException();
            }
        }
        if (what < -1 || what >= found.size()) {
            throw new NoSuchElementException();
        }
        return what == -1 ? found.size() : found.get(what);
    }

    private long g;

    int draw(int m) {
        g = (g * 1103515245 + 12345) % 2147483648L;
        return (int) (g / 65536 % m);
    }

    int years(int seed, int years, int what) {
        if (seed < 0 || seed > 9999 || years < 1 || years > 20 || what < 0 || what > 2) {
            return -1;
        }
        State s = now.copy();
        doHome(s);
        List<int[]> lots = allLots();
        g = seed;
        int harm = 0;
        int good = 0;
        for (int y = 0; y < years; y++) {
            for (int l = 0; l < n(); l++) {
                if (draw(3) == 0 && s.purse[l] >= 20) {
                    s.hidden[l] = 20;
                }
            }
            if (!lots.isEmpty()) {
                away(s, lots.get(draw(lots.size())));
                for (int d = 0; d < 7; d++) {
                    oneDay(s, town.sign());
                }
                good += all(s, -1);
                harm += doHome(s);
            }
            s.hidden = new int[n()];
        }
        return what == 0 ? harm : what == 1 ? good : Arrays.stream(s.purse).sum();
    }

    boolean mark(int m, boolean back) {
        if (m < 0 || m > 3 || back && !marks.containsKey(m)) {
            return false;
        }
        if (back) {
            now = marks.get(m).copy();
            tales = new ArrayList<>(markTales.get(m));
            undos.clear();
        } else {
            marks.put(m, now.copy());
            markTales.put(m, new ArrayList<>(tales));
        }
        return true;
    }

    int count(int what) {
        return switch (what) {
            case 0 -> n();
            case 1 -> town.bars.size();
            case 2 -> town.sign();
            case 3 -> now.self != null ? 1 : 0;
            case 4 -> now.days;
            case 5 -> now.homes;
            case 6 -> now.harm;
            case 7 -> Arrays.stream(now.purse).sum();
            case 8 -> Arrays.stream(now.debt).sum();
            case 9 -> plan.size();
            case 10 -> tales.size();
            case 11 -> undos.size();
            case 12 -> tape.length();
            default -> -1;
        };
    }
}
