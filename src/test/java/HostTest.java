/** Promises 33 to 37: the host. */
public final class HostTest {
    private static final Due due = new Due("HostTest");
    private static final int MIN = Integer.MIN_VALUE, MAX = Integer.MAX_VALUE;

    private static void sheet() {
        CrierOfBorough x = new CrierOfBorough();
        for (int s = 0; s < 4; s++) {
            for (int sort = 0; sort < 3; sort++) {
                due.is("33 of 40", x.sheet(s, sort, 40), 1);
                due.is("33 has 40", x.cell(s, 39, 1), 1);
                due.is("33 has no 41st", x.cell(s, 40, 1), -12);
                due.is("33 of 0", x.sheet(s, sort, 0), 1);
                due.is("33 has none", x.cell(s, 0, 1), -12);
            }
        }
        for (int s : new int[] {-1, 4, MIN, MAX}) {
            due.is("33 sheet " + s, x.sheet(s, 0, 1), -2);
            due.is("33 sheet ahead of -14", x.sheet(s, 0, -1), -2);
            due.is("33 sheet, missing", x.sheet(s, -1, 1), -2);
        }
        for (int sort : new int[] {-2, 3, MIN, MAX}) {
            due.is("33 sort " + sort, x.sheet(0, sort, 1), -2);
            due.is("33 sort ahead of -14", x.sheet(0, sort, -1), -2);
        }
        due.is("33 41", x.sheet(0, 1, 41), -2);
        due.is("33 far", x.sheet(0, 1, MAX), -2);
        due.is("33 below 0", x.sheet(0, 1, -1), -14);
        due.is("33 far below 0", x.sheet(0, 1, MIN), -14);
        due.is("33 nothing by a refusal", x.judge(0), -1);
        for (int n : new int[] {-1, 41, MIN, MAX, 0}) {
            due.is("33 missing", x.sheet(0, -1, n), 1);
            due.is("33 missing", x.judge(0), -11);
        }
        Due.row(x, 1, 1, 2, 3);
        x.sheet(1, 0, 3);
        due.is("33 all 0", x.judge(1), 0);
        x.borough(2, 0);
        due.is("33 all 0", x.judge(1), -1);
    }

    private static void cell() {
        CrierOfBorough x = new CrierOfBorough();
        x.sheet(0, 0, 3);
        due.is("34 cell", x.cell(0, 0, 1), 1);
        due.is("34 cell", x.cell(0, 2, 3), 1);
        due.is("34 the other one is 0", x.judge(0), 1);
        x.cell(0, 1, 2);
        due.is("34 becomes", x.judge(0), -1);
        for (int i : new int[] {-1, 3, 40, MIN, MAX}) {
            due.is("34 outside " + i, x.cell(0, i, 1), -12);
        }
        for (int s : new int[] {-1, 4, MIN, MAX}) {
            due.is("34 sheet " + s, x.cell(s, -1, 1), -2);
        }
        due.is("34 nothing there ahead of outside", x.cell(1, -1, 1), -11);
        int[] sorts = {0, 1, 2};
        int[] lows = {256, 65536, 0};
        for (int sort : sorts) {
            x.sheet(0, sort, 1);
            x.cell(0, 0, 1 + lows[sort]);
            due.is("34 its lowest bits, sort " + sort, x.judge(0), -1);
            x.cell(0, 0, 1 + 2 * 65536 * 256);
            due.is("34 far more, sort " + sort, x.judge(0), sort == 2 ? 0 : -1);
            x.cell(0, 0, 1 + 256);
            due.is("34 256 more, sort " + sort, x.judge(0), sort == 0 ? -1 : 0);
            x.cell(0, 0, MIN + 1);
            due.is("34 MIN, sort " + sort, x.judge(0), sort == 2 ? 0 : -1);
        }
    }

    /** A row of ints 1 .. n, as people see it: number i is what THING i has to be cried then. */
    private static CrierOfBorough rows() {
        CrierOfBorough x = new CrierOfBorough();
        x.sheet(0, 2, 5);
        x.sheet(1, 2, 4);
        for (int i = 0; i < 5; i++) {
            x.cell(0, i, i + 1);
        }
        return x;
    }

    private static void copy() {
        CrierOfBorough x = rows();
        due.is("35 to another one", x.copy(0, 0, 1, 0, 4), 4);
        due.is("35 they came", x.judge(1), -1);
        due.is("35 they stay", x.judge(0), -1);
        due.is("35 on its own", x.copy(0, 0, 0, 1, 4), 4);
        due.is("35 as they were: 1 1 2 3 4", x.judge(0), 1);
        due.is("35 back: 1 2 3 4 4", x.copy(0, 1, 0, 0, 4), 4);
        due.is("35 back", x.judge(0), 4);
        due.is("35 1 2 3 2 3", x.copy(0, 1, 0, 3, 2), 2);
        due.is("35 1 2 3 2 3", x.judge(0), 3);
        int[][] fine = {{0, 5, 1, 0, 0}, {0, 0, 1, 4, 0}, {0, 4, 1, 3, 1}};
        for (int[] f : fine) {
            due.is("35 at the end", x.copy(f[0], f[1], f[2], f[3], f[4]), f[4]);
        }
        int[][] outside = {{0, 0, 1, 0, 5}, {0, 2, 1, 0, 4}, {0, 0, 1, 1, 4}, {0, -1, 1, 0, 1}, {0, 0, 1, -1, 1}, {0, 0, 1, 0, -1}, {0, 6, 1, 0, 0}, {0, 0, 1, 5, 0},
            {0, MAX, 1, 0, 1}, {0, 1, 1, 1, MAX}, {0, MAX, 1, MAX, MAX}, {0, MIN, 1, MIN, MIN}, {0, MIN, 1, 0, 0}, {0, 3, 1, 0, MIN}, {0, -1, 1, 0, 0}};
        for (int[] o : outside) {
            due.is("35 outside", x.copy(o[0], o[1], o[2], o[3], o[4]), -12);
        }
        for (int s : new int[] {-1, 4, MIN, MAX}) {
            due.is("35 sheet " + s, x.copy(s, -1, 3, 0, 1), -2);
            due.is("35 other sheet " + s, x.copy(3, -1, s, 0, 1), -2);
        }
        x.sheet(2, 1, 5);
        due.is("35 nothing there", x.copy(3, -1, 2, 0, 1), -11);
        due.is("35 nothing there", x.copy(2, 0, 3, -1, 1), -11);
        due.is("35 unlike sorts, ahead of outside", x.copy(0, -1, 2, 0, 9), -13);
        due.is("35 unlike sorts", x.copy(2, 0, 1, 0, 1), -13);
        x.borough(2, 0);
        x.sheet(1, 2, 3);
        x.sheet(0, 2, 3);
        x.cell(0, 2, 7);
        x.copy(0, 1, 1, 0, 9);
        due.is("35 nothing by a refusal", x.judge(1), -1);
    }

    private static void peopleBy() {
        CrierOfBorough x = new CrierOfBorough();
        x.sheet(0, 1, 10);
        int[] numbers = {99, 47, 8, 1023, 60, 0, 0, 5, 1, 2};
        for (int i = 0; i < 10; i++) {
            x.cell(0, i, numbers[i]);
        }
        due.is("36 none", x.peopleBy(0, 1, 1, 0), 0);
        due.is("36 two of three", x.peopleBy(0, 1, 1, 3), 2);
        int[] is = {8, 1023, 0, 1, 4, 7, 1, 2, 0, 1, 0, 5};
        for (int i = 0; i < 12; i++) {
            due.is("36 told " + i, x.told(i / 6, i % 6), is[i]);
        }
        due.is("36 outside", x.peopleBy(0, 1, 1, 4), -12);
        due.is("36 what stood ahead came", x.count(0), 4);
        due.is("36 outside in part", x.peopleBy(0, 1, 8, 1), -12);
        due.is("36 outside at once", x.peopleBy(0, 1, 10, 1), -12);
        for (int from : new int[] {-1, -3, MIN, MAX, MAX - 2}) {
            due.is("36 from " + from, x.peopleBy(0, 1, from, 2), -12);
        }
        due.is("36 nobody more", x.count(0), 4);
        due.is("36 no room for one", x.peopleBy(0, 1, 7, 1) * 100 + x.peopleBy(0, 1, 7, 1) * 10 + x.peopleBy(0, 1, 7, 1), 110);
        due.is("36 six", x.count(0), 6);
        for (int s : new int[] {-1, 4, MIN, MAX}) {
            due.is("36 sheet " + s, x.peopleBy(s, 1, 0, 1), -2);
        }
        for (int sort : new int[] {-1, 3, MIN, MAX}) {
            due.is("36 sort " + sort, x.peopleBy(1, sort, 0, 1), -2);
        }
        for (int n : new int[] {-1, 7, MIN, MAX}) {
            due.is("36 n " + n, x.peopleBy(1, 1, 0, n), -2);
        }
        due.is("36 nothing there", x.peopleBy(1, 1, -1, 1), -11);
        due.is("36 of another sort", x.peopleBy(0, 0, -1, 1), -13);
        due.is("36 of another sort", x.peopleBy(0, 2, -1, 1), -13);
        CrierOfBorough y = new CrierOfBorough();
        Due.row(y, 0, 0, 0, 127, 0, 0, 200);
        due.is("36 a byte is -128 .. 127", y.peopleBy(0, 0, 0, 2), 1);
        due.is("36 wanted", y.told(0, 1), 127);
        y.sheet(1, 2, 18);
        y.sheet(3, 2, 3);
        due.is("36 of the last sheet", y.peopleBy(3, 2, 0, 0), 0);
        due.is("36 six of ints", y.peopleBy(1, 2, 0, 6), 5);
    }

    private static void taken() {
        CrierOfBorough x = new CrierOfBorough();
        String[] of = {"0", "01", "02", "013", "024", "05"};
        for (int p = 0; p < 5; p++) {
            x.citizen(10 * p + 10, 0, 0);
            x.put(p, 3, p % 2);
        }
        for (int p = 0; p < 5; p++) {
            for (int kind = 0; kind < 6; kind++) {
                boolean is = of[p + 1].indexOf('0' + kind) >= 0;
                due.is("37 taken " + p + " for " + kind, x.taken(p, kind), is ? p : -13);
                due.is("37 a window for " + kind, x.taken(6 + p, kind), -13);
            }
            due.is("37 one for a window", x.taken(p, 6), -13);
            due.is("37 window " + p, x.taken(6 + p, 6), p % 2);
        }
        for (int kind = 0; kind <= 6; kind++) {
            due.is("37 nobody", x.taken(5, kind), -11);
            due.is("37 nobody's window", x.taken(11, kind), -11);
            for (int i : new int[] {-1, 12, MIN, MAX}) {
                due.is("37 outside", x.taken(i, kind), -12);
            }
        }
        for (int kind : new int[] {-1, 7, MIN, MAX}) {
            due.is("37 kind " + kind, x.taken(0, kind), -2);
            due.is("37 kind ahead of outside", x.taken(-1, kind), -2);
        }
        x.citizen(9, 0, 0);
        due.is("37 a CITIZEN", x.taken(5, 0), 5);
        due.is("37 a CITIZEN is no MOTHER", x.taken(5, 1), -13);
    }

    public static void main(String[] args) {
        sheet();
        cell();
        copy();
        peopleBy();
        taken();
        due.end();
    }
}
