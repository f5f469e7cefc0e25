/** Promises 22 to 32: told hours, and quarters by lots. */
public final class ToldTest {
    private static final Due due = new Due("ToldTest");
    private static final int MIN = Integer.MIN_VALUE, MAX = Integer.MAX_VALUE;

    /** One of a KIND and MORE at 0 who wants THING 0: a CITIZEN lets 1, 0, 2, 3 be cried in four HOURS. */
    private static CrierOfBorough told(int kindMore) {
        CrierOfBorough x = new CrierOfBorough();
        x.citizen(kindMore, 0, 1);
        Due.row(x, 0, 2, 1, 3, 4);
        return x;
    }

    private static void judge() {
        CrierOfBorough x = told(0);
        due.is("22 as told", x.judge(0), -1);
        for (int i = 0; i < 4; i++) {
            x.cell(0, i, 0);
            due.is("22 otherwise", x.judge(0), i);
            x.cell(0, i, new int[] {2, 1, 3, 4}[i]);
        }
        x.cell(0, 1, 1 + 256);
        due.is("22 a byte", x.judge(0), -1);
        x.cell(0, 1, 9);
        x.cell(0, 3, 9);
        due.is("22 the first one", x.judge(0), 1);
        x.sheet(1, 2, 0);
        due.is("22 no hours", x.judge(1), -1);
        x.sheet(1, 2, 20);
        due.is("22 20", x.judge(1), 0);
        x.sheet(2, 1, 21);
        due.is("22 more than 20", x.judge(2), -2);
        due.is("22 nothing there", x.judge(3), -11);
        for (int s : new int[] {-1, 4, MIN, MAX}) {
            due.is("22 sheet " + s, x.judge(s), -2);
        }
        due.is("22 in thought", x.crier(0), 0);
        CrierOfBorough y = new CrierOfBorough();
        y.sheet(0, 2, 20);
        for (int i = 0; i < 10; i++) {
            y.cell(0, i, i + 1);
        }
        due.is("22 0: none", y.judge(0), -1);
        y.cell(0, 19, 1);
        due.is("22 the last", y.judge(0), 19);
        y.cell(0, 0, 1 + 65536);
        due.is("22 an int", y.judge(0), 0);
        y.borough(0, 9999);
        y.cell(0, 0, 1);
        due.is("22 past 9999", y.judge(0), 19);
    }

    /** What each told asking refuses ahead of all else. */
    private static void refusals() {
        CrierOfBorough x = told(0);
        x.sheet(2, 1, 21);
        int[] sheets = {-1, 4, MIN, MAX, 1, 2};
        int[] answers = {-2, -2, -2, -2, -11, -2};
        for (int i = 0; i < sheets.length; i++) {
            due.is("22 refuses", x.judge(sheets[i]), answers[i]);
            due.is("23 refuses ahead of -5", x.kinds(sheets[i], 9, 9), answers[i]);
            due.is("24 refuses ahead of -5", x.corners(sheets[i], 9), answers[i]);
            due.is("25 refuses ahead of -5", x.turned(sheets[i], 9, 9), answers[i]);
            due.is("26 refuses ahead of -5", x.evils(sheets[i], 10, 9), answers[i]);
            due.is("27 refuses", x.laws(sheets[i]), answers[i]);
        }
        for (int p : new int[] {-2, 1, 6, MIN, MAX}) {
            due.is("23 none such " + p, x.kinds(0, p, 2), -5);
            due.is("24 none such " + p, x.corners(0, p), -5);
            due.is("25 none such " + p, x.turned(0, p, 0), -5);
        }
        due.is("23 none such -1", x.kinds(0, -1, 0), -5);
        due.is("25 none such -1", x.turned(0, -1, 1), -5);
        for (int t : new int[] {-1, 10, MIN, MAX}) {
            due.is("26 no such thing " + t, x.evils(0, t, 2), -5);
        }
        for (int sort : new int[] {-1, 3, MIN, MAX}) {
            due.is("23 sort " + sort, x.kinds(0, 0, sort), -7);
            due.is("25 sort " + sort, x.turned(0, 0, sort), -7);
            due.is("26 what " + sort, x.evils(0, 0, sort), -7);
        }
        due.is("23 sort 2", x.kinds(0, 0, 2), -7);
        due.is("25 sort 0", x.turned(0, 0, 0), -7);
        due.is("26 what 2", x.evils(0, 0, 2), -7);
    }

    private static void kinds() {
        CrierOfBorough x = told(0);
        due.is("23 kinds", x.kinds(0, 0, 0), 0b001011);
        due.is("23 more", x.kinds(0, 0, 1), 1023);
        due.is("23 in thought", x.told(0, 4) * 10 + x.told(0, 5), 0);
        CrierOfBorough y = told(3);
        y.borough(0, 1);
        due.is("23 at hour 1: no WIFE; DEAF 3 listens, doesn't hum it", y.kinds(0, 0, 0), 0b000111);
        CrierOfBorough z = told(10);
        z.put(0, 1, 0);
        z.borough(3, 65);
        due.is("23 MORE of a MOTHER", z.kinds(0, 0, 1), 0b11);
        CrierOfBorough d = told(21);
        due.is("23 MORE of a DEAF", d.kinds(0, 0, 1), 0b0110110110);
        Due.row(d, 0, 11);
        due.is("23 none", d.kinds(0, 0, 0), 0);
        due.is("23 none", d.kinds(0, 0, 1), 0);
        Due.row(d, 0);
        due.is("23 all", d.kinds(0, 0, 0), 63);
        due.is("23 all", d.kinds(0, 0, 1), 1023);
    }

    private static void corners() {
        CrierOfBorough x = told(0);
        due.is("24 of the crier", x.corners(0, -1), 1);
        due.is("24 of one", x.corners(0, 0), 1);
        x.citizen(0, 5, 1023);
        due.is("24 of one that wants all", x.corners(0, 1), 0b111110000);
        due.is("24 in thought", x.told(1, 0), 5);
        due.is("24 in thought", x.crier(1), 0);
        Due.row(x, 1, 1, 2);
        due.is("24 of the crier, another row", x.corners(1, -1), 0b111001110);
        Due.row(x, 1);
        due.is("24 all", x.corners(1, -1), 511);
    }

    private static void turned() {
        CrierOfBorough x = told(0);
        due.is("25 wanted", x.turned(0, 0, 1), 0b1111111100);
        due.is("25 known", x.turned(0, 0, 2), 0b1111111110);
        Due.row(x, 0, 1, 2, 3);
        due.is("25 wanted, if it isn't so", x.turned(0, 0, 1), 1);
        due.is("25 known, if it isn't so", x.turned(0, 0, 2), 1);
        due.is("25 in thought", x.told(0, 1), 1);
        x.put(0, 2, 1);
        due.is("25 known, as it is", x.turned(0, 0, 2), 0b1111111110);
        due.is("25 in thought", x.told(0, 2), 1);
        Due.row(x, 0, 2, 1, 3);
        due.is("25 not known, if it is", x.turned(0, 0, 2), 1);
    }

    private static void evils() {
        CrierOfBorough x = told(0);
        due.is("26 how many", x.evils(0, 0, 0), 51);
        due.is("26 the least", x.evils(0, 0, 1), 0);
        due.is("26 another thing", x.evils(0, 9, 0), 100);
        CrierOfBorough y = told(10);
        y.put(0, 1, 0);
        due.is("26 how many", y.evils(0, 0, 0), 49);
        due.is("26 the least", y.evils(0, 0, 1), 51);
        y.borough(3, 77);
        due.is("26 however bad it is", y.evils(0, 0, 1), 51);
        due.is("26 in thought", y.crier(3), 77);
        Due.row(y, 0, 0);
        due.is("26 none", y.evils(0, 3, 0), 0);
        due.is("26 none", y.evils(0, 3, 1), -1);
    }

    private static void laws() {
        CrierOfBorough x = told(0);
        due.is("27 one text", x.laws(0), 1);
        Due.textOf(x, "curious 0;dreads 1;goes 0;");
        due.is("27 not that one", x.laws(0), 1);
        Due.textOf(x, "curious 1;dreads 0;goes 3;");
        due.is("27 another one", x.laws(0), 0b101);
        Due.row(x, 1, 1, 2, 3);
        due.is("27 by the second", x.laws(1), 0b010);
        x.force(1);
        due.is("27 whichever is the law", x.laws(0), 0b101);
        due.is("27 in thought", x.count(4), 1);
        Due.row(x, 1, 11);
        due.is("27 none", x.laws(1), 0);
        Due.row(x, 1);
        due.is("27 all", x.laws(1), 7);
    }

    private static void film() {
        CrierOfBorough x = told(0);
        x.sheet(1, 2, 3);
        due.is("28 film", x.film(1, 4), 4);
        due.is("28 bytes", x.copy(1, 0, 0, 0, 4), 4);
        due.is("28 as it is cried", x.judge(0), -1);
        due.is("28 no ints any more", x.peopleBy(1, 2, 0, 1), -13);
        due.is("28 4 alone", x.cell(1, 4, 0), -12);
        due.is("28 the hours don't pass", x.crier(0), 0);
        due.is("28 nothing is cried", x.crier(2), 1023);
        due.is("28 all of 20", x.film(3, 20), 20);
        Due.row(x, 0, 2, 1, 3, 4, 5, 6, 7, 8, 9, 10, 0, 0, 0, 0, 0, 0, 0, 0, 0, 0);
        due.is("28 20 by hand", x.judge(0), -1);
        due.is("28 20 by film", x.judge(3), -1);
        x.hour();
        due.is("28 stays as it was", x.judge(3), 0);
        due.is("28 0", x.film(3, 0), 0);
        due.is("28 0 numbers", x.cell(3, 0, 0), -12);
        due.is("28 a missing one", x.film(2, 1), 1);
        due.is("28 the first sheet", x.film(0, 1), 1);
        for (int s : new int[] {-1, 4, MIN, MAX}) {
            due.is("28 sheet " + s, x.film(s, 1), -2);
            due.is("28 sheet ahead of n " + s, x.film(s, 21), -2);
        }
        for (int n : new int[] {-1, 21, MIN, MAX}) {
            due.is("28 n " + n, x.film(1, n), -7);
        }
        due.is("28 nothing by a refusal", x.cell(1, 3, 4), 1);
    }

    /** One that goes with the crier and wants all; LOTS turn what is WANTED. */
    private static CrierOfBorough follower(int before, int wanted) {
        CrierOfBorough x = new CrierOfBorough();
        Due.law(x, "curious 50;dreads bad;goes 1;");
        for (int i = 0; i < before; i++) {
            x.citizen(50, 4, 0);
            x.put(i, 3, 0);
        }
        x.citizen(0, 0, wanted);
        return x;
    }

    private static void drawn() {
        // SEED 0: LOTS 48271 (1 modulo 6), 182605794 (4 modulo 10); then 0 and 7; 1 and 3; 5, 5; 5, 1; 1, 7 ..
        CrierOfBorough x = follower(1, 1023);
        due.is("29 seed 0", x.drawn(0, 0), 3);
        due.is("29 news: without 4, 3, 7 behind the 1st, 3rd, 6th", x.drawn(0, 1), 1023 - 16 - 8 - 128);
        due.is("29 seed 1", x.drawn(1, 1), 1023 - 64);
        due.is("29 seed 19", x.drawn(19, 0), 4);
        due.is("29 seed 19", x.drawn(19, 1), 246);
        CrierOfBorough y = follower(0, 1023);
        due.is("29 who is 0", y.drawn(0, 1), 1023 - 128);
        due.is("29 who isn't there", y.drawn(2, 0), 0);
        due.is("29 the last seed", y.drawn(99999, 0), 0);
        due.is("29 in thought", y.crier(0), 0);
        due.is("29 in thought", y.told(0, 1), 1023);
        CrierOfBorough z = follower(5, 0);
        due.is("29 wanted, if it isn't", z.drawn(1, 1), 128);
        due.is("29 wanted, if it isn't", z.drawn(1, 0), 9);
        due.is("29 nobody", new CrierOfBorough().drawn(5, 0), 10);
        due.is("29 nobody", new CrierOfBorough().drawn(5, 1), 0);
        for (int seed : new int[] {-1, 100000, MIN, MAX}) {
            due.is("29 seed " + seed, x.drawn(seed, 0), -2);
        }
        for (int what : new int[] {-1, 2, MIN, MAX}) {
            due.is("29 what " + what, x.drawn(0, what), -2);
        }
    }

    private static void odds() {
        // By seeds 0 .. 9: 3 1 3 2 3 2 2 1 2 4; by 99990 .. 100009: 2 2 5 1 2 3 2 1 3 1, 3 2 2 2 3 2 2 1 1 1.
        CrierOfBorough x = follower(1, 1023);
        due.is("30 all", x.odds(0, 10, 0, 0), 1);
        due.is("30 all", x.odds(0, 10, 0, 1), 1);
        due.is("30 8 of 10", x.odds(0, 10, 2, 0), 4);
        due.is("30 8 of 10", x.odds(0, 10, 2, 1), 5);
        due.is("30 4 of 10", x.odds(0, 10, 3, 0), 2);
        due.is("30 1 of 10", x.odds(0, 10, 4, 1), 10);
        due.is("30 none", x.odds(0, 10, 5, 0), 0);
        due.is("30 none", x.odds(0, 10, 5, 1), 1);
        due.is("30 one seed", x.odds(9, 1, 4, 0), 1);
        due.is("30 past 99999", x.odds(99990, 20, 3, 0), 1);
        due.is("30 past 99999", x.odds(99990, 20, 3, 1), 4);
        due.is("30 40 seeds", x.odds(99999, 40, 10, 0), 0);
        due.is("30 10", new CrierOfBorough().odds(0, 40, 10, 0), 1);
        int[][] wrong = {{-1, 1, 0, 0}, {100000, 1, 0, 0}, {0, 0, 0, 0}, {0, 41, 0, 0}, {0, 1, -1, 0}, {0, 1, 11, 0}, {0, 1, 0, -1}, {0, 1, 0, 2},
            {MIN, 1, 0, 0}, {MAX, 1, 0, 0}, {0, MAX, 0, 0}, {0, MIN, 0, 0}, {0, 1, MAX, 0}, {0, 1, 0, MAX}};
        for (int[] w : wrong) {
            due.is("30 none such", x.odds(w[0], w[1], w[2], w[3]), CrierOfBorough.NO);
        }
    }

    private static int[] all(CrierOfBorough x) {
        int[] is = new int[13 + 6 + 24];
        for (int i = 0; i < 13; i++) {
            is[i] = x.crier(i);
        }
        for (int i = 0; i < 6; i++) {
            is[13 + i] = i == 3 || i == 5 ? 0 : x.count(i);
        }
        for (int i = 0; i < 24; i++) {
            is[19 + i] = x.told(i / 4, i % 4);
        }
        return is;
    }

    private static void images() {
        CrierOfBorough x = told(0);
        x.citizen(14, 3, 9);
        due.is("32 there is none", x.back(), -3);
        due.is("31 how many", x.image(), 2);
        int[] kept = all(x);
        for (int i = 0; i < 13; i++) {
            x.borough(i, i == 2 ? 77 : 4);
        }
        for (int i = 0; i < 4; i++) {
            x.put(0, i, 0);
            x.put(1, i, 1);
        }
        x.citizen(20, 1, 1);
        Due.law(x, "curious 1;dreads 1;goes 1;");
        x.feed(1, 65, 0, 0, 0, 0);
        x.sheet(0, 0, 2);
        due.is("32 how many there are", x.back(), 2);
        int[] is = all(x);
        for (int i = 0; i < is.length; i++) {
            due.is("32 as it was " + i, is[i], kept[i]);
        }
        due.is("32 who came since is none", x.told(2, 0), -5);
        due.is("32 texts stay", x.count(3), 2);
        due.is("32 the tape stays", x.count(5), 1);
        due.is("32 sheets stay", x.cell(0, 2, 0), -12);
        due.is("32 another one comes", x.citizen(55, 7, 6), 2);
        due.is("32 of another kind", x.told(2, 4), 5);
        x.hour();
        due.is("32 once more", x.back(), 2);
        due.is("32 once more", x.crier(0), kept[0]);
        x.borough(0, 500);
        due.is("31 another image", x.image(), 2);
        x.borough(0, 600);
        x.back();
        due.is("32 the last image", x.crier(0), 500);
        due.is("32 kind", x.told(1, 4), 1);
        due.is("32 more", x.told(1, 5), 4);
        CrierOfBorough y = new CrierOfBorough();
        due.is("31 nobody", y.image(), 0);
        y.citizen(0, 0, 0);
        due.is("32 nobody", y.back(), 0);
    }

    public static void main(String[] args) {
        judge();
        refusals();
        kinds();
        corners();
        turned();
        evils();
        laws();
        film();
        drawn();
        odds();
        images();
        due.end();
    }
}
