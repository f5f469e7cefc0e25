import java.util.Arrays;

/**
 * A borough of nine corners and a crier who cries only what nobody who listens wishes to hear.
 * What each call answers is promised in DOC.md; its words are used here as they are told there.
 */
public final class CrierOfBorough {
    public static final int NONE = -1, BAD = -2, STATE = -3, FULL = -4;
    public static final long NO = -4611686018427387904L;

    private static final int NO_SUCH = -5, NOT_AS_TOLD = -7, NO_ANSWER = -1000, FAULT = -100;
    private static final int NOTHING_THERE = -11, OUTSIDE = -12, OTHER_SORT = -13, SIZE_BELOW_ZERO = -14;

    private static final int CORNERS = 9, THINGS = 10, PEOPLE = 6, KINDS = 6, MORES = 10, TEXTS = 6;
    private static final int ALL_THINGS = 1023, WORST = 99, LAST_HOUR = 9999, LAST_SEED = 99999;
    private static final int MOST_HOURS = 40, MOST_WAITED = 60, MOST_TOLD = 20, QUARTER = 10, MOST_SEEDS = 40;
    private static final int TAPE_ROOM = 160, MOST_OPEN = 5, MOST_DIGITS = 4;
    private static final int SHEETS = 4, SHEET_ROOM = 40, MISSING = -1, BYTES = 0, SHORTS = 1, INTS = 2;

    private static final int CURIOUS_PART = 0, DREADS_PART = 1, GOES_PART = 2, PARTS = 3;
    private static final int END = 0, NUMBER = 1, WRONG = 2;
    private static final int FIRST_WORD = 100, OR = 103, AND = 104, NOT = 105, NEGATE = 112;
    private static final int FIRST_NAME = 106, LAST_NAME = 111, NAMES = 6;
    /** The place of each word here, added to FIRST_WORD, is its TOKEN. */
    private static final String WORDS = "curious dreads goes or and not bad corner known wanted hour more";
    private static final String SIGNS = "();+-*<=";
    private static final String FIRST_LAW = "curious 50 ; dreads bad ; goes 0 ;";

    private static final int[] MOST_PUT = {CORNERS - 1, ALL_THINGS, ALL_THINGS, 1};

    private final Text[] texts = new Text[TEXTS];
    private final Sheet[] sheets = new Sheet[SHEETS];
    private final Tape tape = new Tape();
    private final World now;
    private final World thought;
    private final World kept;
    /** For round() alone, so that it needs no new row. */
    private final int[] mayAround = new int[CORNERS];
    private boolean isKept;
    private int textCount;

    public CrierOfBorough() {
        for (int t = 0; t < TEXTS; t++) {
            texts[t] = new Text();
        }
        for (int s = 0; s < SHEETS; s++) {
            sheets[s] = new Sheet();
        }
        Citizen[] natures = {new Citizen(), new Mother(), new Deaf(), new Wife(), new Hummer(), new Stranger()};
        now = new World(texts, natures);
        thought = new World(texts, natures);
        kept = new World(texts, natures);
        for (int i = 0; i < FIRST_LAW.length(); i++) {
            tape.add(FIRST_LAW.charAt(i));
        }
        tape.read(texts[0]);
        tape.size = 0;
        textCount = 1;
    }

    // ---- the borough, the law, people

    public int count(int what) {
        switch (what) {
            case 0: return now.people;
            case 1: return now.hour;
            case 2: return Integer.bitCount(now.news);
            case 3: return textCount;
            case 4: return now.law;
            case 5: return tape.size;
            default: return BAD;
        }
    }

    public int borough(int what, int v) {
        if (!within(what, 0, 2 + THINGS) || !within(v, 0, mostOfBorough(what))) {
            return BAD;
        }
        int was = ofBorough(what);
        switch (what) {
            case 0: now.hour = v; break;
            case 1: now.corner = v; break;
            case 2: now.news = v; break;
            default: now.evil[what - 3] = v;
        }
        return was;
    }

    public int crier(int what) {
        if (what == 3 + THINGS) {
            return firstOf(now.mayAt(now.corner, now.news));
        }
        return within(what, 0, 2 + THINGS) ? ofBorough(what) : BAD;
    }

    public int feed(int n, int a, int b, int c, int d, int e) {
        if (!within(n, 1, 5) || !isByte(a) || !isByte(b) || !isByte(c) || !isByte(d) || !isByte(e)) {
            return BAD;
        }
        if (tape.size + n > TAPE_ROOM) {
            return FULL;
        }
        for (int i = 0; i < n; i++) {
            tape.add(i == 0 ? a : i == 1 ? b : i == 2 ? c : i == 3 ? d : e);
        }
        return tape.size;
    }

    public int text() {
        if (textCount >= TEXTS) {
            return FULL;
        }
        int fault = tape.read(texts[textCount]);
        tape.size = 0;
        if (fault != NONE) {
            return FAULT - fault;
        }
        textCount++;
        return textCount - 1;
    }

    public int force(int t) {
        if (!within(t, 0, textCount - 1)) {
            return BAD;
        }
        int was = now.law;
        now.law = t;
        return was;
    }

    public int asks(int part, int p, int t) {
        if (!within(part, 0, PARTS - 1) || !now.isOne(p) || !within(t, -1, THINGS - 1)) {
            return NO_ANSWER;
        }
        return now.saidOf(part, p, t == NONE ? 0 : now.evil[t]);
    }

    public int citizen(int kindMore, int where, int wanted) {
        boolean isTold = within(kindMore, 0, KINDS * MORES - 1) && within(where, 0, CORNERS - 1);
        if (!isTold || !within(wanted, 0, ALL_THINGS)) {
            return BAD;
        }
        return now.settle(kindMore, where, wanted);
    }

    public int put(int p, int what, int v) {
        if (!now.isOne(p)) {
            return NO_SUCH;
        }
        if (!within(what, 0, 3) || !within(v, 0, MOST_PUT[what])) {
            return NOT_AS_TOLD;
        }
        int[] row = now.row(what);
        int was = row[p];
        row[p] = v;
        return was;
    }

    public int told(int p, int what) {
        if (!now.isOne(p)) {
            return NO_SUCH;
        }
        if (within(what, 0, 5)) {
            return now.row(what)[p];
        }
        switch (what) {
            case 6: return now.wishedBy(p, ALL_THINGS);
            case 7: return now.listens(p) ? 1 : 0;
            case 8: return 1000 + now.goes(p);
            default: return NOT_AS_TOLD;
        }
    }

    public int ring(int c, int what) {
        if (!within(c, 0, CORNERS - 1)) {
            return NO_SUCH;
        }
        switch (what) {
            case 0: return now.peopleAt(c);
            case 1: return now.listenersAt(c);
            case 2: return now.mayAt(c, ALL_THINGS);
            case 3: return now.mayAt(c, now.news);
            default: return NOT_AS_TOLD;
        }
    }

    // ---- hours

    public int hour() {
        return now.hour == LAST_HOUR ? STATE : now.pass();
    }

    public int run(int n, int what) {
        boolean isAsked = within(what, 0, 2) || now.isOne(what - 10) || now.isOne(what - 20);
        if (!within(n, 0, MOST_HOURS) || !isAsked) {
            return BAD;
        }
        thought.become(now);
        int cried = thought.passMany(n);
        switch (what) {
            case 0: return thought.news;
            case 1: return cried;
            case 2: return thought.knownTogether();
            default: return now.isOne(what - 10) ? thought.at[what - 10] : thought.known[what - 20];
        }
    }

    public int when(int what) {
        boolean isOfOne = what >= 20 && now.isOne(what / 10 - 2);
        if (!within(what, 0, 10) && !isOfOne) {
            return NOT_AS_TOLD;
        }
        thought.become(now);
        for (int h = 0; h <= MOST_WAITED; h++) {
            if (isSoInThought(what)) {
                return h;
            }
            thought.pass();
        }
        return NONE;
    }

    // ---- what is best

    public int where(int what) {
        if (!within(what, 0, 1)) {
            return BAD;
        }
        int best = 0;
        int most = -1;
        for (int c = 0; c < CORNERS; c++) {
            int many = Integer.bitCount(now.mayAt(c, now.news));
            if (many > most) {
                most = many;
                best = c;
            }
        }
        return what == 0 ? best : most;
    }

    public int begin(int n, int what) {
        if (!within(n, 0, MOST_HOURS) || !within(what, 0, 1)) {
            return NOT_AS_TOLD;
        }
        int best = 0;
        int most = -1;
        for (int c = 0; c < CORNERS; c++) {
            thought.become(now);
            thought.corner = c;
            int many = thought.passMany(n);
            if (many > most) {
                most = many;
                best = c;
            }
        }
        return what == 0 ? best : most;
    }

    public int windows(int n, int what) {
        if (!within(n, 0, MOST_HOURS) || !within(what, 0, 1)) {
            return NOT_AS_TOLD;
        }
        thought.become(now);
        int best = NONE;
        int most = thought.passMany(n);
        for (int p = 0; p < now.people; p++) {
            thought.become(now);
            thought.window[p] = 1 - thought.window[p];
            int many = thought.passMany(n);
            if (many > most) {
                most = many;
                best = p;
            }
        }
        return what == 0 ? best : most;
    }

    public int hush(int c, int t, int what) {
        if (!within(c, 0, CORNERS - 1)) {
            return NO_SUCH;
        }
        if (!within(t, 0, THINGS - 1) || !within(what, 0, 1)) {
            return NOT_AS_TOLD;
        }
        // Windows change no wish, so all who wish it must hush, and nobody else need.
        int wishers = wishersAt(c, t);
        thought.become(now);
        for (int p = 0; p < thought.people; p++) {
            if (isIn(wishers, p)) {
                thought.window[p] = 0;
            }
        }
        if (thought.mayAt(c, 1 << t) == 0) {
            return NONE;
        }
        return what == 0 ? wishers : Integer.bitCount(wishers);
    }

    public int round(int what) {
        if (!within(what, 0, 2)) {
            return BAD;
        }
        int anywhere = 0;
        for (int c = 0; c < CORNERS; c++) {
            mayAround[c] = now.mayAt(c, now.news);
            anywhere |= mayAround[c];
        }
        if (what == 2) {
            return now.news & ~anywhere;
        }
        int best = (1 << CORNERS) - 1;
        for (int set = best - 1; set >= 0; set--) {
            boolean isNoWorse = Integer.bitCount(set) <= Integer.bitCount(best);
            if (isNoWorse && mayAtAny(set) == anywhere) {
                best = set;
            }
        }
        return what == 0 ? best : Integer.bitCount(best);
    }

    public long mean(int part) {
        if (!within(part, 0, 1) || now.news == 0) {
            return NO;
        }
        int together = 0;
        for (int t = 0; t < THINGS; t++) {
            if (isIn(now.news, t)) {
                together += now.evil[t];
            }
        }
        return lowest(together, Integer.bitCount(now.news), part);
    }

    // ---- told hours

    public int judge(int s) {
        int refusal = refusalToJudge(s);
        if (refusal != 0) {
            return refusal;
        }
        thought.become(now);
        return otherwise(sheets[s]);
    }

    public int kinds(int s, int p, int sort) {
        int refusal = refusalToJudge(s);
        if (refusal != 0) {
            return refusal;
        }
        if (!now.isOne(p)) {
            return NO_SUCH;
        }
        if (!within(sort, 0, 1)) {
            return NOT_AS_TOLD;
        }
        int[] row = sort == 0 ? thought.kind : thought.more;
        int fit = 0;
        for (int v = 0; v < (sort == 0 ? KINDS : MORES); v++) {
            thought.become(now);
            row[p] = v;
            fit |= otherwise(sheets[s]) == NONE ? 1 << v : 0;
        }
        return fit;
    }

    public int corners(int s, int p) {
        int refusal = refusalToJudge(s);
        if (refusal != 0) {
            return refusal;
        }
        if (p != NONE && !now.isOne(p)) {
            return NO_SUCH;
        }
        int fit = 0;
        for (int c = 0; c < CORNERS; c++) {
            thought.become(now);
            if (p == NONE) {
                thought.corner = c;
            } else {
                thought.at[p] = c;
            }
            fit |= otherwise(sheets[s]) == NONE ? 1 << c : 0;
        }
        return fit;
    }

    public int turned(int s, int p, int sort) {
        int refusal = refusalToJudge(s);
        if (refusal != 0) {
            return refusal;
        }
        if (!now.isOne(p)) {
            return NO_SUCH;
        }
        if (!within(sort, 1, 2)) {
            return NOT_AS_TOLD;
        }
        int[] row = thought.row(sort);
        int fit = 0;
        for (int t = 0; t < THINGS; t++) {
            thought.become(now);
            row[p] ^= 1 << t;
            fit |= otherwise(sheets[s]) == NONE ? 1 << t : 0;
        }
        return fit;
    }

    public int evils(int s, int t, int what) {
        int refusal = refusalToJudge(s);
        if (refusal != 0) {
            return refusal;
        }
        if (!within(t, 0, THINGS - 1)) {
            return NO_SUCH;
        }
        if (!within(what, 0, 1)) {
            return NOT_AS_TOLD;
        }
        int many = 0;
        int least = NONE;
        for (int bad = WORST; bad >= 0; bad--) {
            thought.become(now);
            thought.evil[t] = bad;
            if (otherwise(sheets[s]) == NONE) {
                many++;
                least = bad;
            }
        }
        return what == 0 ? many : least;
    }

    public int laws(int s) {
        int refusal = refusalToJudge(s);
        if (refusal != 0) {
            return refusal;
        }
        int fit = 0;
        for (int t = 0; t < textCount; t++) {
            thought.become(now);
            thought.law = t;
            fit |= otherwise(sheets[s]) == NONE ? 1 << t : 0;
        }
        return fit;
    }

    public int film(int s, int n) {
        if (!within(s, 0, SHEETS - 1)) {
            return BAD;
        }
        if (!within(n, 0, MOST_TOLD)) {
            return NOT_AS_TOLD;
        }
        sheets[s].become(BYTES, n);
        thought.become(now);
        for (int i = 0; i < n; i++) {
            sheets[s].set(i, thought.pass() + 1);
        }
        return n;
    }

    // ---- quarters by lots

    public int drawn(int seed, int what) {
        if (!within(seed, 0, LAST_SEED) || !within(what, 0, 1)) {
            return BAD;
        }
        int cried = criedByLots(seed);
        return what == 0 ? cried : thought.news;
    }

    public long odds(int seed, int seeds, int least, int part) {
        boolean isSeeded = within(seed, 0, LAST_SEED) && within(seeds, 1, MOST_SEEDS);
        if (!isSeeded || !within(least, 0, THINGS) || !within(part, 0, 1)) {
            return NO;
        }
        int many = 0;
        for (int i = 0; i < seeds; i++) {
            if (criedByLots(seed + i) >= least) {
                many++;
            }
        }
        return lowest(many, seeds, part);
    }

    public int image() {
        kept.become(now);
        isKept = true;
        return now.people;
    }

    public int back() {
        if (!isKept) {
            return STATE;
        }
        now.become(kept);
        return now.people;
    }

    // ---- the host

    public int sheet(int s, int sort, int n) {
        boolean isMissing = sort == MISSING;
        if (!within(s, 0, SHEETS - 1) || !within(sort, MISSING, INTS) || !isMissing && n > SHEET_ROOM) {
            return BAD;
        }
        if (!isMissing && n < 0) {
            return SIZE_BELOW_ZERO;
        }
        sheets[s].become(sort, isMissing ? 0 : n);
        return 1;
    }

    public int cell(int s, int i, int v) {
        if (!within(s, 0, SHEETS - 1)) {
            return BAD;
        }
        if (sheets[s].sort == MISSING) {
            return NOTHING_THERE;
        }
        if (!within(i, 0, sheets[s].size - 1)) {
            return OUTSIDE;
        }
        sheets[s].set(i, v);
        return 1;
    }

    public int copy(int s, int i, int other, int j, int n) {
        if (!within(s, 0, SHEETS - 1) || !within(other, 0, SHEETS - 1)) {
            return BAD;
        }
        Sheet from = sheets[s];
        Sheet to = sheets[other];
        if (from.sort == MISSING || to.sort == MISSING) {
            return NOTHING_THERE;
        }
        if (from.sort != to.sort) {
            return OTHER_SORT;
        }
        if (!from.holds(i, n) || !to.holds(j, n)) {
            return OUTSIDE;
        }
        System.arraycopy(from.numbers, i, to.numbers, j, n);
        return n;
    }

    public int peopleBy(int s, int sort, int from, int n) {
        if (!within(s, 0, SHEETS - 1) || !within(sort, BYTES, INTS) || !within(n, 0, PEOPLE)) {
            return BAD;
        }
        Sheet row = sheets[s];
        if (row.sort == MISSING) {
            return NOTHING_THERE;
        }
        if (row.sort != sort) {
            return OTHER_SORT;
        }
        int came = 0;
        int place = from;
        for (int k = 0; k < n; k++) {
            if (!row.holds(place, 3)) {
                return OUTSIDE;
            }
            if (citizen(row.numbers[place], row.numbers[place + 1], row.numbers[place + 2]) >= 0) {
                came++;
            }
            place += 3;
        }
        return came;
    }

    public int taken(int i, int kind) {
        if (!within(kind, 0, KINDS)) {
            return BAD;
        }
        if (!within(i, 0, 2 * PEOPLE - 1)) {
            return OUTSIDE;
        }
        boolean isWindow = i >= PEOPLE;
        int p = isWindow ? i - PEOPLE : i;
        if (!now.isOne(p)) {
            return NOTHING_THERE;
        }
        if (isWindow) {
            return kind == KINDS ? now.window[p] : OTHER_SORT;
        }
        return now.nature(p).isOf(kind) ? p : OTHER_SORT;
    }

    // ---- what the calls share

    private static boolean within(int v, int least, int most) {
        return v >= least && v <= most;
    }

    private static boolean isByte(int v) {
        return within(v, 0, 255);
    }

    private static boolean isIn(int set, int place) {
        return (set >> place & 1) != 0;
    }

    /** The least THING of a set, or NONE. */
    private static int firstOf(int set) {
        for (int t = 0; t < THINGS; t++) {
            if (isIn(set, t)) {
                return t;
            }
        }
        return NONE;
    }

    private static int mostOfBorough(int what) {
        switch (what) {
            case 0: return LAST_HOUR;
            case 1: return CORNERS - 1;
            case 2: return ALL_THINGS;
            default: return WORST;
        }
    }

    private int ofBorough(int what) {
        switch (what) {
            case 0: return now.hour;
            case 1: return now.corner;
            case 2: return now.news;
            default: return within(what, 3, 2 + THINGS) ? now.evil[what - 3] : BAD;
        }
    }

    private boolean isSoInThought(int what) {
        if (what == THINGS) {
            return thought.news == 0;
        }
        if (what < THINGS) {
            return !isIn(thought.news, what);
        }
        int p = what / 10 - 2;
        return thought.isOne(p) && isIn(thought.known[p], what % 10);
    }

    private int mayAtAny(int set) {
        int things = 0;
        for (int c = 0; c < CORNERS; c++) {
            if (isIn(set, c)) {
                things |= mayAround[c];
            }
        }
        return things;
    }

    private int wishersAt(int c, int t) {
        int listeners = now.listenersAt(c);
        int wishers = 0;
        for (int p = 0; p < now.people; p++) {
            if (isIn(listeners, p) && now.wishedBy(p, 1 << t) != 0) {
                wishers |= 1 << p;
            }
        }
        return wishers;
    }

    /** 0, or why a SHEET can't tell HOURS. */
    private int refusalToJudge(int s) {
        if (!within(s, 0, SHEETS - 1)) {
            return BAD;
        }
        if (sheets[s].sort == MISSING) {
            return NOTHING_THERE;
        }
        return sheets[s].size > MOST_TOLD ? BAD : 0;
    }

    private int otherwise(Sheet told) {
        for (int i = 0; i < told.size; i++) {
            if (thought.pass() + 1 != told.numbers[i]) {
                return i;
            }
        }
        return NONE;
    }

    private int criedByLots(int seed) {
        thought.become(now);
        int cried = 0;
        long lot = seed + 1;
        for (int h = 0; h < QUARTER; h++) {
            lot = lotBehind(lot);
            int p = (int) (lot % 6);
            lot = lotBehind(lot);
            int t = (int) (lot % 10);
            if (thought.isOne(p)) {
                thought.wanted[p] ^= 1 << t;
            }
            cried += thought.pass() == NONE ? 0 : 1;
        }
        return cried;
    }

    private static long lotBehind(long lot) {
        return lot * 48271L % 2147483647L;
    }

    /** One part of a fraction in lowest terms; below is 1 or more. */
    private static long lowest(int above, int below, int part) {
        int common = below;
        int rest = above;
        for (int i = 0; i < 100 && rest != 0; i++) {
            int next = common % rest;
            common = rest;
            rest = next;
        }
        if (common == 0) {
            return NO;
        }
        return part == 0 ? above / common : below / common;
    }

    /** KIND 0; the others are as it is, where they don't tell otherwise. */
    private static class Citizen {
        boolean isOf(int kind) {
            return kind == 0;
        }

        boolean wishes(boolean wanted, int curious, int dreads, int more, int hour) {
            return wanted && curious >= dreads;
        }

        boolean hears(boolean up, int more, int hour) {
            return up;
        }

        int goesOn(int told, int more) {
            return told;
        }
    }

    private static class Mother extends Citizen {
        boolean isOf(int kind) {
            return kind == 1 || super.isOf(kind);
        }

        boolean wishes(boolean wanted, int curious, int dreads, int more, int hour) {
            return wanted || curious + 10 * more < dreads;
        }

        int goesOn(int told, int more) {
            return 0;
        }
    }

    private static class Deaf extends Citizen {
        boolean isOf(int kind) {
            return kind == 2 || super.isOf(kind);
        }

        boolean hears(boolean up, int more, int hour) {
            return up && hour % 3 != more % 3;
        }

        int goesOn(int told, int more) {
            return -told;
        }
    }

    private static final class Wife extends Mother {
        boolean isOf(int kind) {
            return kind == 3 || super.isOf(kind);
        }

        boolean wishes(boolean wanted, int curious, int dreads, int more, int hour) {
            return hour % 2 == 0 && super.wishes(wanted, curious + more, dreads, more, hour);
        }

        boolean hears(boolean up, int more, int hour) {
            return true;
        }
    }

    private static final class Hummer extends Deaf {
        boolean isOf(int kind) {
            return kind == 4 || super.isOf(kind);
        }

        boolean wishes(boolean wanted, int curious, int dreads, int more, int hour) {
            return !super.wishes(wanted, curious, dreads, more, hour);
        }

        int goesOn(int told, int more) {
            return super.goesOn(told, more) + more;
        }
    }

    private static final class Stranger extends Citizen {
        boolean isOf(int kind) {
            return kind == 5 || super.isOf(kind);
        }

        boolean wishes(boolean wanted, int curious, int dreads, int more, int hour) {
            return false;
        }

        int goesOn(int told, int more) {
            return more;
        }
    }

    /** All that HOURS change or go by: as it is, as it is thought, or as AN IMAGE has it. */
    private static final class World {
        private final Text[] texts;
        private final Citizen[] natures;
        private int hour;
        private int corner;
        private int news = ALL_THINGS;
        private int law;
        private int people;
        private final int[] evil = new int[THINGS];
        private final int[] at = new int[PEOPLE];
        private final int[] wanted = new int[PEOPLE];
        private final int[] known = new int[PEOPLE];
        private final int[] window = new int[PEOPLE];
        private final int[] kind = new int[PEOPLE];
        private final int[] more = new int[PEOPLE];
        /** What the NAMES of a TEXT stand for, in their order. */
        private final int[] names = new int[NAMES];

        private World(Text[] texts, Citizen[] natures) {
            this.texts = texts;
            this.natures = natures;
        }

        void become(World other) {
            hour = other.hour;
            corner = other.corner;
            news = other.news;
            law = other.law;
            people = other.people;
            System.arraycopy(other.evil, 0, evil, 0, THINGS);
            System.arraycopy(other.at, 0, at, 0, PEOPLE);
            System.arraycopy(other.wanted, 0, wanted, 0, PEOPLE);
            System.arraycopy(other.known, 0, known, 0, PEOPLE);
            System.arraycopy(other.window, 0, window, 0, PEOPLE);
            System.arraycopy(other.kind, 0, kind, 0, PEOPLE);
            System.arraycopy(other.more, 0, more, 0, PEOPLE);
        }

        boolean isOne(int p) {
            return p >= 0 && p < people;
        }

        int settle(int kindMore, int where, int wants) {
            if (people >= PEOPLE) {
                return FULL;
            }
            int p = people;
            kind[p] = kindMore / MORES;
            more[p] = kindMore % MORES;
            at[p] = where;
            wanted[p] = wants;
            known[p] = 0;
            window[p] = 1;
            people++;
            return p;
        }

        /** What is kept of each one, numbered as the calls put() and told() number it. */
        int[] row(int what) {
            switch (what) {
                case 0: return at;
                case 1: return wanted;
                case 2: return known;
                case 3: return window;
                case 4: return kind;
                default: return more;
            }
        }

        Citizen nature(int p) {
            return natures[kind[p]];
        }

        int saidOf(int part, int p, int bad) {
            name(p, bad);
            return texts[law].says(part, names);
        }

        private void name(int p, int bad) {
            names[0] = bad;
            names[1] = at[p];
            names[2] = Integer.bitCount(known[p]);
            names[3] = Integer.bitCount(wanted[p]);
            names[4] = hour;
            names[5] = more[p];
        }

        int wishedBy(int p, int things) {
            int asked = things & ~known[p];
            int wished = 0;
            name(p, 0);
            for (int t = 0; t < THINGS; t++) {
                if (isIn(asked, t)) {
                    names[0] = evil[t];
                    int curious = texts[law].says(CURIOUS_PART, names);
                    int dreads = texts[law].says(DREADS_PART, names);
                    if (nature(p).wishes(isIn(wanted[p], t), curious, dreads, more[p], hour)) {
                        wished |= 1 << t;
                    }
                }
            }
            return wished;
        }

        boolean listens(int p) {
            return nature(p).hears(window[p] == 1, more[p], hour);
        }

        int goes(int p) {
            return nature(p).goesOn(saidOf(GOES_PART, p, 0), more[p]);
        }

        int peopleAt(int c) {
            int set = 0;
            for (int p = 0; p < people; p++) {
                if (at[p] == c) {
                    set |= 1 << p;
                }
            }
            return set;
        }

        int listenersAt(int c) {
            int set = 0;
            for (int p = 0; p < people; p++) {
                if (at[p] == c && listens(p)) {
                    set |= 1 << p;
                }
            }
            return set;
        }

        /** Which of these THINGS MAY be cried AT a CORNER. */
        int mayAt(int c, int things) {
            int left = things;
            for (int p = 0; p < people; p++) {
                if (at[p] == c && left != 0 && listens(p)) {
                    left &= ~wishedBy(p, left);
                }
            }
            return left;
        }

        /** An HOUR: the THING that is CRIED in it, or NONE. */
        int pass() {
            int thing = firstOf(mayAt(corner, news));
            if (thing != NONE) {
                cry(thing);
            }
            for (int p = 0; p < people; p++) {
                known[p] |= wishedBy(p, knownBeside(p));
            }
            for (int p = 0; p < people; p++) {
                at[p] = Math.floorMod(at[p] + goes(p), CORNERS);
            }
            corner = (corner + 1) % CORNERS;
            hour++;
            return thing;
        }

        private void cry(int thing) {
            news &= ~(1 << thing);
            for (int p = 0; p < people; p++) {
                if (at[p] == corner && listens(p)) {
                    known[p] |= 1 << thing;
                }
            }
        }

        private int knownBeside(int one) {
            int things = 0;
            for (int p = 0; p < people; p++) {
                if (p != one && at[p] == at[one]) {
                    things |= known[p];
                }
            }
            return things;
        }

        /** How many THINGS are CRIED in n HOURS. */
        int passMany(int n) {
            int cried = 0;
            for (int h = 0; h < n; h++) {
                if (pass() != NONE) {
                    cried++;
                }
            }
            return cried;
        }

        int knownTogether() {
            int many = 0;
            for (int p = 0; p < people; p++) {
                many += Integer.bitCount(known[p]);
            }
            return many;
        }
    }

    /**
     * A TEXT in steps: a number stands for itself, a TOKEN below 0 for what it does with the values
     * ahead of it, so that no call has to read bytes again.
     */
    private static final class Text {
        private final int[] steps = new int[TAPE_ROOM];
        private final int[] ends = new int[PARTS];
        private final int[] values = new int[TAPE_ROOM];
        private int size;

        void add(int step) {
            if (size < TAPE_ROOM) {
                steps[size] = step;
                size++;
            }
        }

        int says(int part, int[] names) {
            int top = 0;
            for (int i = part == 0 ? 0 : ends[part - 1]; i < ends[part]; i++) {
                int takes = valuesTaken(steps[i]);
                if (top < takes || top - takes >= TAPE_ROOM) {
                    return 0;
                }
                top -= takes;
                int left = takes > 0 ? values[top] : 0;
                int right = takes > 1 ? values[top + 1] : 0;
                values[top] = worth(steps[i], left, right, names);
                top++;
            }
            return Math.max(part == GOES_PART ? -99 : 0, Math.min(99, values[0]));
        }

        private static int valuesTaken(int step) {
            if (step >= 0 || step <= -FIRST_NAME && step >= -LAST_NAME) {
                return 0;
            }
            return step == -NOT || step == -NEGATE ? 1 : 2;
        }

        private static int worth(int step, int left, int right, int[] names) {
            if (step >= 0) {
                return step;
            }
            if (step <= -FIRST_NAME && step >= -LAST_NAME) {
                return names[-step - FIRST_NAME];
            }
            switch (-step) {
                case NEGATE: return -left;
                case NOT: return left == 0 ? 1 : 0;
                case OR: return left != 0 || right != 0 ? 1 : 0;
                case AND: return left != 0 && right != 0 ? 1 : 0;
                case '<': return left < right ? 1 : 0;
                case '=': return left == right ? 1 : 0;
                case '+': return left + right;
                case '-': return left - right;
                case '*': return left * right;
                default: return 0;
            }
        }
    }

    /** THE TAPE, and how a TEXT is read from it: each read..() leaves the TOKEN that it can't take. */
    private static final class Tape {
        private final int[] bytes = new int[TAPE_ROOM];
        private int size;
        private int token;
        private int tokenAt;
        private int tokenEnd;
        private int number;
        private Text into;

        void add(int b) {
            if (size < TAPE_ROOM) {
                bytes[size] = b;
                size++;
            }
        }

        /** NONE, or the place of the FAULT. */
        int read(Text text) {
            into = text;
            into.size = 0;
            tokenEnd = 0;
            advance();
            for (int part = 0; part < PARTS; part++) {
                if (token != FIRST_WORD + part) {
                    return tokenAt;
                }
                advance();
                if (!readEither(0) || token != ';') {
                    return tokenAt;
                }
                advance();
                into.ends[part] = into.size;
            }
            return token == END ? NONE : tokenAt;
        }

        private boolean readEither(int open) {
            if (!readBoth(open)) {
                return false;
            }
            for (int i = 0; i < TAPE_ROOM && token == OR; i++) {
                advance();
                if (!readBoth(open)) {
                    return false;
                }
                into.add(-OR);
            }
            return true;
        }

        private boolean readBoth(int open) {
            if (!readNot(open)) {
                return false;
            }
            for (int i = 0; i < TAPE_ROOM && token == AND; i++) {
                advance();
                if (!readNot(open)) {
                    return false;
                }
                into.add(-AND);
            }
            return true;
        }

        private boolean readNot(int open) {
            if (token == NOT) {
                if (open >= MOST_OPEN) {
                    return false;
                }
                advance();
                if (!readNot(open + 1)) {
                    return false;
                }
                into.add(-NOT);
                return true;
            }
            if (!readSum(open)) {
                return false;
            }
            int sign = token;
            if (sign == '<' || sign == '=') {
                advance();
                if (!readSum(open)) {
                    return false;
                }
                into.add(-sign);
            }
            return true;
        }

        private boolean readSum(int open) {
            if (!readTerm(open)) {
                return false;
            }
            for (int i = 0; i < TAPE_ROOM && (token == '+' || token == '-'); i++) {
                int sign = token;
                advance();
                if (!readTerm(open)) {
                    return false;
                }
                into.add(-sign);
            }
            return true;
        }

        private boolean readTerm(int open) {
            if (!readOne(open)) {
                return false;
            }
            for (int i = 0; i < TAPE_ROOM && token == '*'; i++) {
                advance();
                if (!readOne(open)) {
                    return false;
                }
                into.add(-'*');
            }
            return true;
        }

        private boolean readOne(int open) {
            if (token == NUMBER || within(token, FIRST_NAME, LAST_NAME)) {
                into.add(token == NUMBER ? number : -token);
                advance();
                return true;
            }
            if (open >= MOST_OPEN) {
                return false;
            }
            if (token == '-') {
                advance();
                if (!readOne(open + 1)) {
                    return false;
                }
                into.add(-NEGATE);
                return true;
            }
            if (token != '(') {
                return false;
            }
            advance();
            if (!readEither(open + 1) || token != ')') {
                return false;
            }
            advance();
            return true;
        }

        private void advance() {
            int i = tokenEnd;
            while (i < size && (bytes[i] == 32 || bytes[i] == 10)) {
                i++;
            }
            tokenAt = i;
            if (i >= size) {
                tokenEnd = size;
                token = END;
            } else if (isLetter(i)) {
                tokenEnd = wordEnd(i);
                token = word(i, tokenEnd);
            } else if (isDigit(i)) {
                takeNumber(i);
            } else {
                tokenEnd = i + 1;
                token = SIGNS.indexOf((char) bytes[i]) >= 0 ? bytes[i] : WRONG;
            }
        }

        private boolean isLetter(int i) {
            return i >= 0 && i < size && within(bytes[i], 'a', 'z');
        }

        private boolean isDigit(int i) {
            return i >= 0 && i < size && within(bytes[i], '0', '9');
        }

        private int wordEnd(int from) {
            int i = from;
            while (i < size && isLetter(i)) {
                i++;
            }
            return i;
        }

        private void takeNumber(int from) {
            int i = from;
            number = 0;
            while (i < size && isDigit(i)) {
                number = number * 10 + bytes[i] - '0';
                i++;
            }
            tokenEnd = i;
            token = i - from > MOST_DIGITS ? WRONG : NUMBER;
        }

        private int word(int from, int to) {
            int nth = 0;
            int start = 0;
            for (int i = 0; i <= WORDS.length(); i++) {
                if (i == WORDS.length() || WORDS.charAt(i) == ' ') {
                    if (i - start == to - from && isWordAt(start, from, to)) {
                        return FIRST_WORD + nth;
                    }
                    nth++;
                    start = i + 1;
                }
            }
            return WRONG;
        }

        private boolean isWordAt(int start, int from, int to) {
            for (int i = from; i < to; i++) {
                int k = start + i - from;
                if (k >= WORDS.length() || WORDS.charAt(k) != bytes[i]) {
                    return false;
                }
            }
            return true;
        }
    }

    private static final class Sheet {
        private final int[] numbers = new int[SHEET_ROOM];
        private int sort = MISSING;
        private int size;

        void become(int newSort, int newSize) {
            sort = newSort;
            size = newSize;
            Arrays.fill(numbers, 0);
        }

        /** Whether n numbers stand from place i on. */
        boolean holds(int i, int n) {
            return i >= 0 && n >= 0 && i <= size - n;
        }

        void set(int i, int v) {
            if (within(i, 0, size - 1)) {
                numbers[i] = sort == BYTES ? (byte) v : sort == SHORTS ? (short) v : v;
            }
        }
    }
}
