import java.util.ArrayList;
import java.util.Arrays;
import java.util.Comparator;
import java.util.List;
import java.util.function.Consumer;
import java.util.function.IntPredicate;

/**
 * The document told a second time, with the whole Java library and no thought of room or speed: sets are
 * tried one by one, TEXTS are worked out by cutting them in two. ModelTest compares the program with it.
 */
public final class Model {
    static final class Someone implements Cloneable {
        int kind, more, corner, wanted, known;
        boolean up = true;

        Someone twin() {
            try {
                return (Someone) clone();
            } catch (CloneNotSupportedException e) {
                throw new IllegalStateException(e);
            }
        }
    }

    static final class Token {
        final String sign;
        final int place;
        final boolean isLeaf;

        Token(String sign, int place) {
            this.sign = sign;
            this.place = place;
            isLeaf = sign.matches("[0-9]{1,4}|bad|corner|known|wanted|hour|more");
        }
    }

    static final class Law {
        final List<List<Token>> parts = new ArrayList<>();
    }

    static final class Town {
        int hour, corner, news = 1023, law;
        int[] bad = new int[10];
        List<Someone> people = new ArrayList<>();

        Town twin() {
            Town t = new Town();
            t.hour = hour;
            t.corner = corner;
            t.news = news;
            t.law = law;
            t.bad = bad.clone();
            for (Someone p : people) {
                t.people.add(p.twin());
            }
            return t;
        }
    }

    private Town town = new Town();
    private Town kept;
    private final List<Law> laws = new ArrayList<>();
    private final StringBuilder tape = new StringBuilder();
    private final Object[] sheets = new Object[4];

    public Model() {
        tape.append("curious 50 ; dreads bad ; goes 0 ;");
        text();
    }

    // ---- texts

    private static final List<String> NAMES = List.of("bad", "corner", "known", "wanted", "hour", "more");
    private static final List<List<String>> LEVELS = List.of(List.of("or"), List.of("and"), List.of("not"),
            List.of("<", "="), List.of("+", "-"), List.of("*"));

    private static List<Token> tokens(String s) {
        List<Token> all = new ArrayList<>();
        int i = 0;
        while (i < s.length()) {
            char c = s.charAt(i);
            int from = i++;
            if (c == ' ' || c == '\n') {
                continue;
            }
            String same = c >= 'a' && c <= 'z' ? "[a-z]" : c >= '0' && c <= '9' ? "[0-9]" : null;
            while (same != null && i < s.length() && String.valueOf(s.charAt(i)).matches(same)) {
                i++;
            }
            all.add(new Token(s.substring(from, i), from));
        }
        all.add(new Token("", s.length()));
        return all;
    }

    /** The place of the FAULT, or -1; told by what may come next, with no tree. */
    private static int fault(List<Token> all, Law law) {
        int i = 0;
        for (String key : new String[] {"curious", "dreads", "goes"}) {
            if (!all.get(i).sign.equals(key)) {
                return all.get(i).place;
            }
            int from = ++i;
            i = behindExpression(all, from);
            if (i < 0) {
                return -i - 1;
            }
            law.parts.add(all.subList(from, i));
            i++;
        }
        return all.get(i).sign.isEmpty() ? -1 : all.get(i).place;
    }

    /** Where its ; is, or -1 less the place of its FAULT. */
    private static int behindExpression(List<Token> all, int from) {
        List<int[]> frames = new ArrayList<>(); // nots open, minuses open, compared
        frames.add(new int[3]);
        boolean wantsValue = true;
        boolean mayNot = true;
        for (int i = from;; i++) {
            String t = all.get(i).sign;
            int[] top = frames.get(frames.size() - 1);
            int open = frames.size() - 1;
            for (int[] f : frames) {
                open += f[0] + f[1];
            }
            boolean fine = true;
            if (wantsValue) {
                if (all.get(i).isLeaf) {
                    top[1] = 0;
                    wantsValue = false;
                } else if (t.equals("-") && open < 5) {
                    top[1]++;
                    mayNot = false;
                } else if (t.equals("(") && open < 5) {
                    frames.add(new int[3]);
                    mayNot = true;
                } else if (t.equals("not") && mayNot && open < 5) {
                    top[0]++;
                } else {
                    fine = false;
                }
            } else if (t.equals("+") || t.equals("-") || t.equals("*")) {
                wantsValue = true;
                mayNot = false;
            } else if ((t.equals("<") || t.equals("=")) && top[2] == 0) {
                top[2] = 1;
                wantsValue = true;
                mayNot = false;
            } else if (t.equals("and") || t.equals("or")) {
                top[0] = 0;
                top[2] = 0;
                wantsValue = true;
                mayNot = true;
            } else if (t.equals(")") && frames.size() > 1) {
                frames.remove(frames.size() - 1);
                frames.get(frames.size() - 1)[1] = 0;
            } else if (t.equals(";") && frames.size() == 1) {
                return i;
            } else {
                fine = false;
            }
            if (!fine) {
                return -1 - all.get(i).place;
            }
        }
    }

    private static int lastTop(List<Token> e, List<String> signs) {
        int depth = 0;
        int found = -1;
        for (int i = 0; i < e.size(); i++) {
            String t = e.get(i).sign;
            depth += t.equals("(") ? 1 : t.equals(")") ? -1 : 0;
            boolean isBinary = i > 0 && (e.get(i - 1).isLeaf || e.get(i - 1).sign.equals(")"));
            if (depth == 0 && isBinary && signs.contains(t)) {
                found = i;
            }
        }
        return found;
    }

    private static int bit(boolean b) {
        return b ? 1 : 0;
    }

    private static int worth(List<Token> e, int[] names) {
        if (e.size() == 1) {
            int name = NAMES.indexOf(e.get(0).sign);
            return name < 0 ? Integer.parseInt(e.get(0).sign) : names[name];
        }
        for (List<String> signs : LEVELS) {
            if (signs.get(0).equals("not")) {
                if (e.get(0).sign.equals("not")) {
                    return bit(worth(e.subList(1, e.size()), names) == 0);
                }
                continue;
            }
            int i = lastTop(e, signs);
            if (i > 0) {
                int a = worth(e.subList(0, i), names);
                int b = worth(e.subList(i + 1, e.size()), names);
                switch (e.get(i).sign) {
                    case "or": return bit(a != 0 || b != 0);
                    case "and": return bit(a != 0 && b != 0);
                    case "<": return bit(a < b);
                    case "=": return bit(a == b);
                    case "+": return a + b;
                    case "-": return a - b;
                    default: return a * b;
                }
            }
        }
        String first = e.get(0).sign;
        if (first.equals("-")) {
            return -worth(e.subList(1, e.size()), names);
        }
        return worth(e.subList(1, e.size() - 1), names);
    }

    private int says(Town t, int part, int p, int bad) {
        Someone one = t.people.get(p);
        int[] names = {bad, one.corner, Integer.bitCount(one.known), Integer.bitCount(one.wanted), t.hour, one.more};
        int v = worth(laws.get(t.law).parts.get(part), names);
        return part == 2 ? Math.max(-99, Math.min(99, v)) : Math.max(0, Math.min(99, v));
    }

    // ---- kinds

    private boolean wishes(Town t, int p, int thing) {
        Someone one = t.people.get(p);
        if ((one.known & 1 << thing) != 0) {
            return false;
        }
        boolean wanted = (one.wanted & 1 << thing) != 0;
        int curious = says(t, 0, p, t.bad[thing]);
        int dreads = says(t, 1, p, t.bad[thing]);
        switch (one.kind) {
            case 0:
            case 2: return wanted && curious >= dreads;
            case 1: return wanted || curious + 10 * one.more < dreads;
            case 3: return t.hour % 2 == 0 && (wanted || curious + one.more + 10 * one.more < dreads);
            case 4: return !(wanted && curious >= dreads);
            default: return false;
        }
    }

    private boolean listens(Town t, int p) {
        Someone one = t.people.get(p);
        switch (one.kind) {
            case 3: return true;
            case 2:
            case 4: return one.up && t.hour % 3 != one.more % 3;
            default: return one.up;
        }
    }

    private int goes(Town t, int p) {
        Someone one = t.people.get(p);
        switch (one.kind) {
            case 1:
            case 3: return 0;
            case 2: return -says(t, 2, p, 0);
            case 4: return -says(t, 2, p, 0) + one.more;
            case 5: return one.more;
            default: return says(t, 2, p, 0);
        }
    }

    // ---- hours

    private boolean may(Town t, int c, int thing) {
        for (int p = 0; p < t.people.size(); p++) {
            if (t.people.get(p).corner == c && listens(t, p) && wishes(t, p, thing)) {
                return false;
            }
        }
        return true;
    }

    private static int bits(int size, IntPredicate is) {
        int set = 0;
        for (int i = 0; i < size; i++) {
            set |= is.test(i) ? 1 << i : 0;
        }
        return set;
    }

    private static boolean in(int set, int i) {
        return (set & 1 << i) != 0;
    }

    private int next(Town t) {
        for (int thing = 0; thing < 10; thing++) {
            if (in(t.news, thing) && may(t, t.corner, thing)) {
                return thing;
            }
        }
        return -1;
    }

    private int pass(Town t) {
        int thing = next(t);
        if (thing >= 0) {
            t.news &= ~(1 << thing);
            for (int p = 0; p < t.people.size(); p++) {
                if (t.people.get(p).corner == t.corner && listens(t, p)) {
                    t.people.get(p).known |= 1 << thing;
                }
            }
        }
        for (int p = 0; p < t.people.size(); p++) {
            Someone one = t.people.get(p);
            int heard = 0;
            for (Someone other : t.people) {
                heard |= other != one && other.corner == one.corner ? other.known : 0;
            }
            int all = heard;
            int who = p;
            one.known |= bits(10, i -> in(all, i) && wishes(t, who, i));
        }
        for (int p = 0; p < t.people.size(); p++) {
            t.people.get(p).corner = (t.people.get(p).corner + goes(t, p) + 900) % 9;
        }
        t.corner = t.corner == 8 ? 0 : t.corner + 1;
        t.hour++;
        return thing;
    }

    private int passMany(Town t, int n) {
        int cried = 0;
        for (int i = 0; i < n; i++) {
            cried += pass(t) >= 0 ? 1 : 0;
        }
        return cried;
    }

    // ---- the face

    private boolean none(int p) {
        return p < 0 || p >= town.people.size();
    }

    private static boolean out(int v, int least, int most) {
        return v < least || v > most;
    }

    public int count(int what) {
        int[] all = {town.people.size(), town.hour, Integer.bitCount(town.news), laws.size(), town.law, tape.length()};
        return out(what, 0, 5) ? -2 : all[what];
    }

    public int borough(int what, int v) {
        if (out(what, 0, 12) || out(v, 0, what == 0 ? 9999 : what == 1 ? 8 : what == 2 ? 1023 : 99)) {
            return -2;
        }
        int was = crier(what);
        if (what == 0) {
            town.hour = v;
        } else if (what == 1) {
            town.corner = v;
        } else if (what == 2) {
            town.news = v;
        } else {
            town.bad[what - 3] = v;
        }
        return was;
    }

    public int crier(int what) {
        if (out(what, 0, 13)) {
            return -2;
        }
        return what == 0 ? town.hour : what == 1 ? town.corner : what == 2 ? town.news
                : what == 13 ? next(town) : town.bad[what - 3];
    }

    public int feed(int n, int a, int b, int c, int d, int e) {
        int[] five = {a, b, c, d, e};
        if (out(n, 1, 5) || Arrays.stream(five).anyMatch(x -> out(x, 0, 255))) {
            return -2;
        }
        if (tape.length() + n > 160) {
            return -4;
        }
        for (int i = 0; i < n; i++) {
            tape.append((char) five[i]);
        }
        return tape.length();
    }

    public int text() {
        if (laws.size() == 6) {
            return -4;
        }
        Law law = new Law();
        int fault = fault(tokens(tape.toString()), law);
        tape.setLength(0);
        if (fault >= 0) {
            return -100 - fault;
        }
        laws.add(law);
        return laws.size() - 1;
    }

    public int force(int t) {
        if (out(t, 0, laws.size() - 1)) {
            return -2;
        }
        int was = town.law;
        town.law = t;
        return was;
    }

    public int asks(int part, int p, int t) {
        if (out(part, 0, 2) || none(p) || out(t, -1, 9)) {
            return -1000;
        }
        return says(town, part, p, t < 0 ? 0 : town.bad[t]);
    }

    public int citizen(int kindMore, int where, int wanted) {
        if (out(kindMore, 0, 59) || out(where, 0, 8) || out(wanted, 0, 1023)) {
            return -2;
        }
        if (town.people.size() == 6) {
            return -4;
        }
        Someone one = new Someone();
        one.kind = kindMore / 10;
        one.more = kindMore % 10;
        one.corner = where;
        one.wanted = wanted;
        town.people.add(one);
        return town.people.size() - 1;
    }

    public int put(int p, int what, int v) {
        if (none(p)) {
            return -5;
        }
        if (out(what, 0, 3) || out(v, 0, new int[] {8, 1023, 1023, 1}[what])) {
            return -7;
        }
        int was = told(p, what);
        Someone one = town.people.get(p);
        if (what == 0) {
            one.corner = v;
        } else if (what == 1) {
            one.wanted = v;
        } else if (what == 2) {
            one.known = v;
        } else {
            one.up = v == 1;
        }
        return was;
    }

    public int told(int p, int what) {
        if (none(p)) {
            return -5;
        }
        Someone one = town.people.get(p);
        switch (what) {
            case 0: return one.corner;
            case 1: return one.wanted;
            case 2: return one.known;
            case 3: return bit(one.up);
            case 4: return one.kind;
            case 5: return one.more;
            case 6: return bits(10, i -> wishes(town, p, i));
            case 7: return bit(listens(town, p));
            case 8: return 1000 + goes(town, p);
            default: return -7;
        }
    }

    public int ring(int c, int what) {
        if (out(c, 0, 8)) {
            return -5;
        }
        int size = town.people.size();
        switch (what) {
            case 0: return bits(size, p -> town.people.get(p).corner == c);
            case 1: return bits(size, p -> town.people.get(p).corner == c && listens(town, p));
            case 2: return bits(10, i -> may(town, c, i));
            case 3: return bits(10, i -> in(town.news, i) && may(town, c, i));
            default: return -7;
        }
    }

    public int hour() {
        return town.hour == 9999 ? -3 : pass(town);
    }

    public int run(int n, int what) {
        boolean ofCorner = what >= 10 && what < 10 + town.people.size();
        boolean ofKnown = what >= 20 && what < 20 + town.people.size();
        if (out(n, 0, 40) || out(what, 0, 2) && !ofCorner && !ofKnown) {
            return -2;
        }
        Town t = town.twin();
        int cried = passMany(t, n);
        if (ofCorner) {
            return t.people.get(what - 10).corner;
        }
        if (ofKnown) {
            return t.people.get(what - 20).known;
        }
        return what == 0 ? t.news : what == 1 ? cried
                : t.people.stream().mapToInt(p -> Integer.bitCount(p.known)).sum();
    }

    public int when(int what) {
        if (out(what, 0, 10) && (what < 20 || what >= 20 + 10 * town.people.size())) {
            return -7;
        }
        for (int h = 0; h <= 60; h++) {
            Town t = town.twin();
            passMany(t, h);
            boolean is = what == 10 ? t.news == 0 : what < 10 ? !in(t.news, what)
                    : in(t.people.get(what / 10 - 2).known, what % 10);
            if (is) {
                return h;
            }
        }
        return -1;
    }

    private int firstMost(int[] row, int what) {
        int most = Arrays.stream(row).max().getAsInt();
        int first = 0;
        while (row[first] != most) {
            first++;
        }
        return what == 0 ? first : most;
    }

    private Town with(Consumer<Town> change) {
        Town t = town.twin();
        change.accept(t);
        return t;
    }

    public int where(int what) {
        int[] row = new int[9];
        for (int c = 0; c < 9; c++) {
            row[c] = Integer.bitCount(ring(c, 3));
        }
        return out(what, 0, 1) ? -2 : firstMost(row, what);
    }

    public int begin(int n, int what) {
        if (out(n, 0, 40) || out(what, 0, 1)) {
            return -7;
        }
        int[] row = new int[9];
        for (int c = 0; c < 9; c++) {
            int at = c;
            row[c] = passMany(with(t -> t.corner = at), n);
        }
        return firstMost(row, what);
    }

    public int windows(int n, int what) {
        if (out(n, 0, 40) || out(what, 0, 1)) {
            return -7;
        }
        int[] row = new int[town.people.size() + 1];
        row[0] = passMany(with(t -> { }), n);
        for (int p = 0; p < town.people.size(); p++) {
            int who = p;
            row[p + 1] = passMany(with(t -> t.people.get(who).up = !t.people.get(who).up), n);
        }
        return firstMost(row, what) - (what == 0 ? 1 : 0);
    }

    private static int bestOfSets(int size, IntPredicate fits) {
        List<Integer> sets = new ArrayList<>();
        for (int set = 0; set < 1 << size; set++) {
            sets.add(set);
        }
        sets.sort(Comparator.comparingInt((Integer s) -> Integer.bitCount(s)).thenComparingInt(s -> s));
        return sets.stream().filter(fits::test).findFirst().orElse(-1);
    }

    public int hush(int c, int t, int what) {
        if (out(c, 0, 8)) {
            return -5;
        }
        if (out(t, 0, 9) || out(what, 0, 1)) {
            return -7;
        }
        int listeners = ring(c, 1);
        int best = bestOfSets(6, set -> (set & ~listeners) == 0 && may(with(w -> {
            for (int p = 0; p < w.people.size(); p++) {
                w.people.get(p).up &= !in(set, p);
            }
        }), c, t));
        return best < 0 || what == 0 ? best : Integer.bitCount(best);
    }

    public int round(int what) {
        if (out(what, 0, 2)) {
            return -2;
        }
        int anywhere = bits(10, i -> in(town.news, i) && bits(9, c -> may(town, c, i)) != 0);
        int best = bestOfSets(9, set -> bits(10, i -> in(anywhere, i) && bits(9, c -> in(set, c) && may(town, c, i)) == 0) == 0);
        return what == 0 ? best : what == 1 ? Integer.bitCount(best) : town.news & ~anywhere;
    }

    private static long lowest(int above, int below, int part) {
        int by = 1;
        for (int i = 1; i <= below; i++) {
            by = above % i == 0 && below % i == 0 ? i : by;
        }
        return part == 0 ? above / by : below / by;
    }

    public long mean(int part) {
        if (out(part, 0, 1) || town.news == 0) {
            return -(1L << 62);
        }
        int sum = 0;
        for (int i = 0; i < 10; i++) {
            sum += in(town.news, i) ? town.bad[i] : 0;
        }
        return lowest(sum, Integer.bitCount(town.news), part);
    }

    // ---- told hours

    private static int size(Object sheet) {
        return java.lang.reflect.Array.getLength(sheet);
    }

    private static int number(Object sheet, int i) {
        return java.lang.reflect.Array.getInt(sheet, i);
    }

    private int untold(int s) {
        return out(s, 0, 3) ? -2 : sheets[s] == null ? -11 : size(sheets[s]) > 20 ? -2 : 0;
    }

    private int otherwise(int s, Town t) {
        List<Integer> cried = new ArrayList<>();
        for (int i = 0; i < size(sheets[s]); i++) {
            cried.add(pass(t) + 1);
        }
        for (int i = 0; i < cried.size(); i++) {
            if (cried.get(i) != number(sheets[s], i)) {
                return i;
            }
        }
        return -1;
    }

    public int judge(int s) {
        return untold(s) != 0 ? untold(s) : otherwise(s, town.twin());
    }

    public int kinds(int s, int p, int sort) {
        if (untold(s) != 0) {
            return untold(s);
        }
        if (none(p)) {
            return -5;
        }
        if (out(sort, 0, 1)) {
            return -7;
        }
        return sort == 0 ? bits(6, v -> otherwise(s, with(t -> t.people.get(p).kind = v)) == -1)
                : bits(10, v -> otherwise(s, with(t -> t.people.get(p).more = v)) == -1);
    }

    public int corners(int s, int p) {
        if (untold(s) != 0) {
            return untold(s);
        }
        if (p != -1 && none(p)) {
            return -5;
        }
        return p == -1 ? bits(9, c -> otherwise(s, with(t -> t.corner = c)) == -1)
                : bits(9, c -> otherwise(s, with(t -> t.people.get(p).corner = c)) == -1);
    }

    public int turned(int s, int p, int sort) {
        if (untold(s) != 0) {
            return untold(s);
        }
        if (none(p)) {
            return -5;
        }
        if (out(sort, 1, 2)) {
            return -7;
        }
        return sort == 1 ? bits(10, i -> otherwise(s, with(t -> t.people.get(p).wanted ^= 1 << i)) == -1)
                : bits(10, i -> otherwise(s, with(t -> t.people.get(p).known ^= 1 << i)) == -1);
    }

    public int evils(int s, int t, int what) {
        if (untold(s) != 0) {
            return untold(s);
        }
        if (out(t, 0, 9)) {
            return -5;
        }
        if (out(what, 0, 1)) {
            return -7;
        }
        List<Integer> fit = new ArrayList<>();
        for (int v = 0; v < 100; v++) {
            int bad = v;
            if (otherwise(s, with(w -> w.bad[t] = bad)) == -1) {
                fit.add(v);
            }
        }
        return what == 0 ? fit.size() : fit.isEmpty() ? -1 : fit.get(0);
    }

    public int laws(int s) {
        return untold(s) != 0 ? untold(s) : bits(laws.size(), l -> otherwise(s, with(t -> t.law = l)) == -1);
    }

    public int film(int s, int n) {
        if (out(s, 0, 3)) {
            return -2;
        }
        if (out(n, 0, 20)) {
            return -7;
        }
        byte[] row = new byte[n];
        Town t = town.twin();
        for (int i = 0; i < n; i++) {
            row[i] = (byte) (pass(t) + 1);
        }
        sheets[s] = row;
        return n;
    }

    // ---- quarters by lots

    private Town[] quarter(long seed, int[] cried) {
        Town t = town.twin();
        long lot = (seed + 1) * 48271 % 2147483647;
        for (int h = 0; h < 10; h++) {
            int who = (int) (lot % 6);
            lot = lot * 48271 % 2147483647;
            int thing = (int) (lot % 10);
            lot = lot * 48271 % 2147483647;
            if (who < t.people.size()) {
                t.people.get(who).wanted ^= 1 << thing;
            }
            cried[0] += pass(t) < 0 ? 0 : 1;
        }
        return new Town[] {t};
    }

    public int drawn(int seed, int what) {
        if (out(seed, 0, 99999) || out(what, 0, 1)) {
            return -2;
        }
        int[] cried = new int[1];
        Town t = quarter(seed, cried)[0];
        return what == 0 ? cried[0] : t.news;
    }

    public long odds(int seed, int seeds, int least, int part) {
        if (out(seed, 0, 99999) || out(seeds, 1, 40) || out(least, 0, 10) || out(part, 0, 1)) {
            return -(1L << 62);
        }
        int many = 0;
        for (int i = 0; i < seeds; i++) {
            int[] cried = new int[1];
            quarter(seed + i, cried);
            many += cried[0] >= least ? 1 : 0;
        }
        return lowest(many, seeds, part);
    }

    public int image() {
        kept = town.twin();
        return kept.people.size();
    }

    public int back() {
        if (kept == null) {
            return -3;
        }
        town = kept.twin();
        return town.people.size();
    }

    // ---- the host

    public int sheet(int s, int sort, int n) {
        if (out(s, 0, 3) || out(sort, -1, 2) || sort >= 0 && n > 40) {
            return -2;
        }
        if (sort >= 0 && n < 0) {
            return -14;
        }
        sheets[s] = sort < 0 ? null : sort == 0 ? new byte[n] : sort == 1 ? (Object) new short[n] : new int[n];
        return 1;
    }

    public int cell(int s, int i, int v) {
        if (out(s, 0, 3)) {
            return -2;
        }
        if (sheets[s] == null) {
            return -11;
        }
        if (out(i, 0, size(sheets[s]) - 1)) {
            return -12;
        }
        if (sheets[s] instanceof byte[]) {
            ((byte[]) sheets[s])[i] = (byte) v;
        } else if (sheets[s] instanceof short[]) {
            ((short[]) sheets[s])[i] = (short) v;
        } else {
            ((int[]) sheets[s])[i] = v;
        }
        return 1;
    }

    public int copy(int s, int i, int other, int j, int n) {
        if (out(s, 0, 3) || out(other, 0, 3)) {
            return -2;
        }
        if (sheets[s] == null || sheets[other] == null) {
            return -11;
        }
        if (sheets[s].getClass() != sheets[other].getClass()) {
            return -13;
        }
        try {
            System.arraycopy(sheets[s], i, sheets[other], j, n);
        } catch (IndexOutOfBoundsException e) {
            return -12;
        }
        return n;
    }

    public int peopleBy(int s, int sort, int from, int n) {
        if (out(s, 0, 3) || out(sort, 0, 2) || out(n, 0, 6)) {
            return -2;
        }
        if (sheets[s] == null) {
            return -11;
        }
        Object[] like = {new byte[0], new short[0], new int[0]};
        if (like[sort].getClass() != sheets[s].getClass()) {
            return -13;
        }
        int came = 0;
        for (int k = 0; k < n; k++) {
            int[] three = new int[3];
            for (int i = 0; i < 3; i++) {
                long place = (long) from + 3 * k + i;
                if (place < 0 || place >= size(sheets[s])) {
                    return -12;
                }
                three[i] = number(sheets[s], (int) place);
            }
            came += citizen(three[0], three[1], three[2]) >= 0 ? 1 : 0;
        }
        return came;
    }

    public int taken(int i, int kind) {
        if (out(kind, 0, 6)) {
            return -2;
        }
        if (out(i, 0, 11)) {
            return -12;
        }
        if (none(i % 6)) {
            return -11;
        }
        if (i >= 6) {
            return kind == 6 ? bit(town.people.get(i - 6).up) : -13;
        }
        String[] are = {"0", "01", "02", "013", "024", "05"};
        return are[town.people.get(i).kind].indexOf((char) ('0' + kind)) >= 0 ? i : -13;
    }
}
