/** Promises 1 to 12: the borough, the law, people. */
public final class BoroughTest {
    private static final Due due = new Due("BoroughTest");
    private static final int MIN = Integer.MIN_VALUE, MAX = Integer.MAX_VALUE;

    private static void newObject() {
        CrierOfBorough x = new CrierOfBorough();
        int[] counts = {0, 0, 10, 1, 0, 0};
        for (int what = 0; what < 6; what++) {
            due.is("1 count " + what, x.count(what), counts[what]);
        }
        for (int what = 0; what <= 12; what++) {
            due.is("1 crier " + what, x.crier(what), what == 2 ? 1023 : 0);
        }
        for (int s = 0; s < 4; s++) {
            due.is("1 no sheet " + s, x.judge(s), -11);
        }
        due.is("1 no image", x.back(), -3);
        due.is("1 nobody", x.told(0, 0), -5);
        due.is("1 nobody at 0", x.ring(0, 0), 0);
        x.citizen(0, 3, 7);
        due.is("1 law 0 curious", x.asks(0, 0, 0), 50);
        due.is("1 law 0 dreads", x.asks(1, 0, 0), 0);
        x.borough(3, 71);
        due.is("1 law 0 dreads bad", x.asks(1, 0, 0), 71);
        due.is("1 law 0 goes", x.asks(2, 0, 0), 0);
        due.is("1 constants", CrierOfBorough.NONE * 1000 + CrierOfBorough.BAD * 100 + CrierOfBorough.STATE * 10 + CrierOfBorough.FULL, -1234);
        due.is("1 NO", CrierOfBorough.NO, -4611686018427387904L);
    }

    /** "An object is used for at most 512 calls after it has been made": the 512th answers as the first. */
    private static void lastCalls() {
        CrierOfBorough x = new CrierOfBorough();
        for (int i = 0; i < 510; i++) {
            due.is("hour " + i, x.hour(), i < 10 ? i : -1);
        }
        due.is("the 511th call", x.crier(0), 510);
        due.is("the 512th call", x.crier(1), 510 % 9);
    }

    private static void count() {
        CrierOfBorough x = new CrierOfBorough();
        x.citizen(0, 0, 0);
        x.citizen(10, 0, 0);
        x.borough(0, 77);
        x.borough(2, 0b1010101);
        Due.law(x, "curious 1;dreads 1;goes 1;");
        x.feed(3, 1, 2, 3, 0, 0);
        int[] counts = {2, 77, 4, 2, 1, 3};
        for (int what = 0; what < 6; what++) {
            due.is("2 count " + what, x.count(what), counts[what]);
        }
        for (int what : new int[] {-1, 6, MIN, MAX}) {
            due.is("2 count " + what, x.count(what), -2);
        }
    }

    private static void borough() {
        CrierOfBorough x = new CrierOfBorough();
        int[] most = {9999, 8, 1023};
        int[] first = {0, 0, 1023};
        for (int what = 0; what <= 12; what++) {
            int bound = what < 3 ? most[what] : 99;
            due.is("3 first " + what, x.borough(what, bound), what < 3 ? first[what] : 0);
            for (int v : new int[] {-1, bound + 1, MIN, MAX}) {
                due.is("3 borough " + what + " " + v, x.borough(what, v), -2);
            }
            due.is("3 was " + what, x.borough(what, 5), bound);
            due.is("3 to 0 " + what, x.borough(what, 0), 5);
            due.is("3 is 0 " + what, x.borough(what, what), 0);
        }
        for (int what = 0; what <= 12; what++) {
            due.is("3 apart " + what, x.crier(what), what);
        }
        for (int what : new int[] {-1, 13, MIN, MAX}) {
            due.is("3 borough " + what, x.borough(what, 0), -2);
        }
    }

    private static void crier() {
        CrierOfBorough x = new CrierOfBorough();
        x.borough(0, 12);
        x.borough(1, 4);
        x.borough(2, 0b11100);
        x.borough(12, 33);
        due.is("4 hour", x.crier(0), 12);
        due.is("4 corner", x.crier(1), 4);
        due.is("4 news", x.crier(2), 28);
        due.is("4 bad", x.crier(12), 33);
        due.is("4 next", x.crier(13), 2);
        x.citizen(0, 4, 0b00100);
        due.is("4 next but the wanted", x.crier(13), 3);
        x.put(0, 2, 0b00100);
        due.is("4 next, as it is known", x.crier(13), 2);
        x.put(0, 2, 0);
        x.citizen(0, 4, 0b11000);
        due.is("4 nothing may be cried", x.crier(13), -1);
        x.put(1, 3, 0);
        due.is("4 a window down", x.crier(13), 3);
        x.put(0, 0, 5);
        due.is("4 one at another corner", x.crier(13), 2);
        x.borough(2, 0);
        due.is("4 no news", x.crier(13), -1);
        for (int what : new int[] {-1, 14, MIN, MAX}) {
            due.is("4 crier " + what, x.crier(what), -2);
        }
        due.is("4 asking changes nothing", x.crier(0), 12);
    }

    private static void feed() {
        CrierOfBorough x = new CrierOfBorough();
        due.is("5 one", x.feed(1, 0, 0, 0, 0, 0), 1);
        due.is("5 five", x.feed(5, 255, 0, 0, 0, 0), 6);
        for (int n : new int[] {0, 6, -1, MIN, MAX}) {
            due.is("5 n " + n, x.feed(n, 0, 0, 0, 0, 0), -2);
        }
        for (int wrong : new int[] {-1, 256, MIN, MAX}) {
            due.is("5 a " + wrong, x.feed(1, wrong, 0, 0, 0, 0), -2);
            due.is("5 b " + wrong, x.feed(1, 0, wrong, 0, 0, 0), -2);
            due.is("5 c " + wrong, x.feed(1, 0, 0, wrong, 0, 0), -2);
            due.is("5 d " + wrong, x.feed(1, 0, 0, 0, wrong, 0), -2);
            due.is("5 e " + wrong, x.feed(1, 0, 0, 0, 0, wrong), -2);
        }
        due.is("5 none came", x.count(5), 6);
        for (int i = 0; i < 30; i++) {
            x.feed(5, 32, 32, 32, 32, 32);
        }
        due.is("5 156", x.count(5), 156);
        due.is("5 five have no room", x.feed(5, 32, 32, 32, 32, 32), -4);
        due.is("5 none of them came", x.count(5), 156);
        due.is("5 four have", x.feed(4, 32, 32, 32, 32, 32), 160);
        due.is("5 full", x.feed(1, 32, 32, 32, 32, 32), -4);
        due.is("5 BAD ahead of FULL", x.feed(1, 32, 32, 32, 32, 256), -2);
        CrierOfBorough y = new CrierOfBorough();
        y.feed(5, 'c', 'u', 'r', 'i', 'o');
        y.feed(5, 'u', 's', ' ', '7', ';');
        y.feed(5, 'd', 'r', 'e', 'a', 'd');
        y.feed(4, 's', '8', ';', 'g', 'x');
        y.feed(5, 'o', 'e', 's', '9', ';');
        due.is("5 in their order", y.text(), 1);
    }

    private static int fault(String s) {
        return -100 - Due.textOf(new CrierOfBorough(), s);
    }

    private static void faultAt(String before, String rest) {
        due.is("6 fault in " + before + "|" + rest, fault(before + rest), before.length());
    }

    /** An E that is told by its part ahead of the FAULT, and the rest. */
    private static void faultInside(String before, String rest) {
        faultAt("curious " + before, rest + ";dreads bad;goes 0;");
    }

    private static void fine(String e) {
        due.is("6 fine: " + e, Due.textOf(new CrierOfBorough(), "curious 1;dreads 2;goes " + e + ";"), 1);
    }

    private static void texts() {
        CrierOfBorough x = new CrierOfBorough();
        for (int t = 1; t < 6; t++) {
            due.is("6 number", Due.textOf(x, " \ncurious50;dreads bad;\ngoes 0; \n"), t);
            due.is("6 the tape is empty", x.count(5), 0);
        }
        Due.feedAll(x, "wrong");
        due.is("6 FULL ahead of the FAULT", x.text(), -4);
        due.is("6 the tape stays", x.count(5), 5);
        due.is("6 six texts", x.count(3), 6);
        CrierOfBorough y = new CrierOfBorough();
        due.is("6 empty", y.text(), -100);
        due.is("6 fault", Due.textOf(y, "curious @;"), -108);
        due.is("6 the tape is empty by a fault, too", y.count(5), 0);
        due.is("6 no text came", y.count(3), 1);
        due.is("6 then another", Due.textOf(y, "curious 1;dreads 1;goes 1;"), 1);
    }

    private static void faults() {
        faultAt("curious 50 ; dreads bad ; goes 0 ", "");
        faultAt("curious 50 ; dreads bad ; goes 0 \n", "");
        faultAt("curious", "");
        faultAt("curious 5; ", "goes 1; dreads 2;");
        faultAt("", "dreads 1;");
        faultAt("curious 5; dreads 1; goes 1; ", "curious 1;");
        faultAt("curious 5; dreads 1; goes 1;", ";");
        faultAt("curious 5; dreads 1; goes 1; ", "x");
        faultAt("curious 5; dreads 1; goes 1;\n\n", "\t");
        faultAt("", "curiouss 5;");
        faultAt("", "Curious 5;");
        faultAt("  ", "curiousx;");
        faultInside("", "");
        faultInside("5 ", "6");
        faultInside("5", "bad");
        faultInside("5 + ", "* 3");
        faultInside("", "12345");
        faultInside("9999 + ", "00000");
        faultInside("5 ", "12345");
        faultInside("", "evil");
        faultInside("bad ", "evil");
        faultInside("", "goes");
        faultInside("", "or 1");
        faultInside("1 and ", "");
        faultInside("1 or ", "or 2");
        for (String behind : new String[] {"1 or ", "not ", "1 < ", "1 = ", "1 + ", "1 - ", "1 * ", "- ", "( ", "(1) or not "}) {
            faultInside(behind, "");
        }
        faultInside("(1 + 2", "");
        faultInside("1 + 2", ")");
        faultInside("(", ")");
        faultInside("1 < 2 ", "< 3");
        faultInside("1 = 2 ", "= 3");
        faultInside("1 < 2 ", "= 3");
        faultInside("1 < ", "not 3");
        faultInside("1 + ", "not 3");
        faultInside("- ", "not 3");
        faultInside("1 ", "not 3");
        faultInside("bad ", "A");
        faultInside("bad ", "\u00e9");
        faultInside("bad ", "\r");
        faultInside("bad ", "> 3");
        faultInside("known ", "(1)");
        faultInside("", "notbad");
    }

    private static void depth() {
        fine("(((((5)))))");
        faultInside("(((((", "(5))))))");
        fine("-----5");
        faultInside("-----", "-5");
        fine("not not not not not 5");
        faultInside("not not not not not ", "not 5");
        faultInside("not not not not not ", "(5)");
        faultInside("not not not not not ", "-5");
        fine("not (-(not 5))");
        faultInside("not (-(not ", "(5)))");
        fine("-----5 - -----5 - (((((5)))))");
        fine("not not not not not 5 < 4 and not not not not not 5");
        faultInside("not 1 = ((((", "-1))))");
        fine("not 1 = ((((1))))");
        faultInside("not 1 = ((((", "(1)))))");
        fine("not 1 and (((((1)))))");
        fine("-1 + (((((1)))))");
        fine("-1 * (((((1)))))");
        fine("(1) + (((((1)))))");
        faultInside("-((((", "-1))))");
        faultInside("-((((1 + ", "-1))))");
        fine("-((((1 - 1))))");
        faultInside("-((((1 + 2", "");
    }

    private static int worth(String e) {
        CrierOfBorough x = new CrierOfBorough();
        x.citizen(57, 8, 0b1110);
        x.put(0, 2, 0b11111);
        x.borough(0, 36);
        x.borough(5, 44);
        Due.law(x, "curious 0;dreads 0;goes " + e + ";");
        return x.asks(2, 0, 2);
    }

    private static void worths() {
        String[] es = {"7", "0007", "bad", "corner", "known", "wanted", "hour", "more", "1+2*3", "(1+2)*3", "9-4-3", "-3+5",
            "--3", "-2*3", "2*-3", "9-(4-3)", "1<2", "2<1", "2<2", "2=2", "2=3", "1+1=2", "3<1+1", "not 0", "not 5", "not not 5",
            "not 1<2", "not 5 = 0", "1 or 0", "0 or 0", "7 or 9", "2 and 3", "2 and 0", "1 or 1 and 0", "(1 or 1) and 0",
            "not 0 and 0", "not (0 and 0)", "0 or not 0", "-1 and -1", "98", "99", "100", "-99", "-100", "0-100", "9999",
            "bad-corner*known+wanted", "9999*9999*9999*9999 < 0", "9999*9999*22 < 0", "9999*9999*9999-(9999*9999*9999-5)",
            "-(0-0)", "hour=36 and more=7"};
        int[] due6 = {7, 7, 44, 8, 5, 3, 36, 7, 7, 9, 2, 2,
            3, -6, -6, 8, 1, 0, 0, 1, 0, 1, 0, 1, 0, 1,
            0, 1, 1, 0, 1, 1, 0, 1, 0,
            0, 1, 1, 1, 98, 99, 99, -99, -99, -99, 99,
            7, bit(9999 * 9999 * 9999 * 9999 < 0), bit(9999 * 9999 * 22 < 0), 5,
            0, 1};
        for (int i = 0; i < es.length; i++) {
            due.is("6 worth " + es[i], worth(es[i]), due6[i]);
        }
    }

    private static int bit(boolean b) {
        return b ? 1 : 0;
    }

    private static void force() {
        CrierOfBorough x = new CrierOfBorough();
        Due.textOf(x, "curious 1;dreads 2;goes 3;");
        Due.textOf(x, "curious 4;dreads 5;goes 6;");
        x.citizen(0, 0, 0);
        due.is("7 none", x.force(3), -2);
        due.is("7 -1", x.force(-1), -2);
        due.is("7 far", x.force(MAX), -2);
        due.is("7 which was", x.force(2), 0);
        due.is("7 it is", x.asks(1, 0, 0), 5);
        due.is("7 which was", x.force(1), 2);
        due.is("7 it is", x.asks(2, 0, 0), 3);
        due.is("7 the same", x.force(1), 1);
        due.is("7 back to 0", x.force(0), 1);
        due.is("7 law", x.count(4), 0);
        due.is("7 back", x.asks(0, 0, 0), 50);
    }

    private static void asks() {
        CrierOfBorough x = new CrierOfBorough();
        x.citizen(13, 2, 1);
        x.citizen(27, 6, 3);
        x.borough(7, 20);
        Due.law(x, "curious bad + corner; dreads 0 - bad; goes bad - 50 * more;");
        due.is("8 curious", x.asks(0, 0, 4), 22);
        due.is("8 curious of another", x.asks(0, 1, 4), 26);
        due.is("8 of another thing", x.asks(0, 1, 3), 6);
        due.is("8 of none", x.asks(0, 1, -1), 6);
        x.borough(12, 7);
        due.is("8 of the last", x.asks(0, 1, 9), 13);
        due.is("8 dreads, bound", x.asks(1, 0, 4), 0);
        due.is("8 goes by the thing of the call, bound", x.asks(2, 0, 4), -99);
        x.borough(7, 90);
        due.is("8 goes by the thing of the call", x.asks(2, 0, 4), -60);
        due.is("8 goes of none", x.asks(2, 0, -1), -99);
        due.is("8 curious, bound", x.asks(0, 1, 4), 96);
        x.borough(7, 99);
        due.is("8 curious, bound", x.asks(0, 1, 4), 99);
        int[][] wrong = {{-1, 0, 0}, {3, 0, 0}, {0, -1, 0}, {0, 2, 0}, {0, 6, 0}, {0, 0, -2}, {0, 0, 10}, {MAX, 0, 0}, {0, MIN, 0}, {0, 0, MAX}, {0, 0, MIN}};
        for (int[] w : wrong) {
            due.is("8 none such", x.asks(w[0], w[1], w[2]), -1000);
        }
    }

    private static void citizen() {
        CrierOfBorough x = new CrierOfBorough();
        int[][] wrong = {{-1, 0, 0}, {60, 0, 0}, {0, -1, 0}, {0, 9, 0}, {0, 0, -1}, {0, 0, 1024}, {MAX, 0, 0}, {0, MIN, 0}, {0, 0, MAX}};
        for (int[] w : wrong) {
            due.is("9 BAD", x.citizen(w[0], w[1], w[2]), -2);
        }
        for (int p = 0; p < 6; p++) {
            due.is("9 number", x.citizen(10 * p + 9 - p, p + 3, 1023 - p), p);
        }
        due.is("9 FULL", x.citizen(0, 0, 0), -4);
        for (int[] w : wrong) {
            due.is("9 BAD ahead of FULL", x.citizen(w[0], w[1], w[2]), -2);
        }
        for (int p = 0; p < 6; p++) {
            int[] is = {p + 3, 1023 - p, 0, 1, p, 9 - p};
            for (int what = 0; what < 6; what++) {
                due.is("9 told " + p + " " + what, x.told(p, what), is[what]);
            }
        }
        CrierOfBorough y = new CrierOfBorough();
        y.image();
        due.is("9 the most", y.citizen(59, 8, 1023), 0);
        y.put(0, 2, 1023);
        y.put(0, 3, 0);
        y.back();
        y.citizen(0, 0, 0);
        due.is("9 KNOWN: none as one comes", y.told(0, 2), 0);
        due.is("9 UP as one comes", y.told(0, 3), 1);
    }

    private static void put() {
        CrierOfBorough x = new CrierOfBorough();
        x.citizen(0, 4, 37);
        x.citizen(0, 4, 37);
        int[] first = {4, 37, 0, 1};
        int[] most = {8, 1023, 1023, 1};
        for (int what = 0; what < 4; what++) {
            due.is("10 was " + what, x.put(1, what, most[what]), first[what]);
            for (int v : new int[] {-1, most[what] + 1, MIN, MAX}) {
                due.is("10 v " + what + " " + v, x.put(1, what, v), -7);
            }
            due.is("10 to 0 " + what, x.put(1, what, 0), most[what]);
            due.is("10 is 0 " + what, x.told(1, what), 0);
            due.is("10 the other one " + what, x.told(0, what), first[what]);
        }
        for (int what : new int[] {-1, 4, 5, MIN, MAX}) {
            due.is("10 what " + what, x.put(1, what, 0), -7);
        }
        for (int p : new int[] {-1, 2, 6, MIN, MAX}) {
            due.is("10 none such " + p, x.put(p, 0, 0), -5);
        }
        due.is("10 none such ahead of what", x.put(2, 9, -1), -5);
    }

    /** Six of all KINDS, MORE 2, that want 0b1111, by curious 30, dreads bad, goes 4; THING t is 10 times t bad. */
    private static CrierOfBorough kinds(int hour) {
        CrierOfBorough x = new CrierOfBorough();
        Due.law(x, "curious 30;dreads bad;goes 4;");
        for (int kind = 0; kind < 6; kind++) {
            x.citizen(10 * kind + 2, kind, 0b0000011111);
        }
        for (int t = 0; t < 10; t++) {
            x.borough(3 + t, 10 * t);
        }
        x.borough(0, hour);
        return x;
    }

    private static void told() {
        CrierOfBorough x = kinds(4);
        // CURIOUS 30: as much as bad of 3 (30), less than of 4; 30 + 20 = 50 < 60; 52 < 60.
        int[] wishes = {0b0000001111, 0b1111011111, 0b0000001111, 0b1111011111, 0b1111110000, 0};
        int[] goes = {4, 0, -4, 0, -2, 2};
        for (int p = 0; p < 6; p++) {
            due.is("11 kind " + p, x.told(p, 4), p);
            due.is("11 more " + p, x.told(p, 5), 2);
            due.is("11 wishes " + p, x.told(p, 6), wishes[p]);
            due.is("11 listens " + p, x.told(p, 7), 1);
            due.is("11 goes " + p, x.told(p, 8), 1000 + goes[p]);
        }
        toldEdges();
        toldListens();
        for (int what : new int[] {-1, 9, MIN, MAX}) {
            due.is("11 what " + what, x.told(0, what), -7);
        }
        for (int p : new int[] {-1, 6, MIN, MAX}) {
            due.is("11 none such " + p, x.told(p, 0), -5);
        }
        due.is("11 none such ahead of what", new CrierOfBorough().told(0, 9), -5);
    }

    private static void toldEdges() {
        CrierOfBorough x = kinds(4);
        x.borough(3, 50);
        x.borough(4, 51);
        x.borough(5, 52);
        x.borough(6, 53);
        for (int p = 0; p < 6; p++) {
            x.put(p, 1, 0);
        }
        due.is("11 a MOTHER: less than one dreads it", x.told(1, 6) & 15, 0b1110);
        due.is("11 a WIFE: CURIOUS MORE more", x.told(3, 6) & 15, 0b1000);
        x.borough(0, 5);
        due.is("11 a WIFE in an odd hour", x.told(3, 6), 0);
        due.is("11 a MOTHER in an odd hour", x.told(1, 6) & 15, 0b1110);
        for (int p = 0; p < 6; p++) {
            x.put(p, 1, 1023);
            x.put(p, 2, 0b1111111);
        }
        due.is("11 known: CITIZEN", x.told(0, 6), 0);
        due.is("11 known: MOTHER", x.told(1, 6), 0b1110000000);
        due.is("11 known: HUMMER", x.told(4, 6), 0b1110000000);
        x.put(4, 1, 0);
        x.put(4, 2, 1023);
        due.is("11 a HUMMER knows all", x.told(4, 6), 0);
        x.put(4, 2, 1022);
        due.is("11 a HUMMER wishes what a DEAF doesn't", x.told(4, 6), 1);
        Due.law(x, "curious 20 + 10 * known; dreads 10 * wanted; goes 200 * hour - 100 * known;");
        x.put(0, 1, 0b1110000000);
        x.put(0, 2, 0);
        due.is("11 by known and wanted", x.told(0, 6), 0);
        x.put(0, 2, 1);
        due.is("11 by known and wanted", x.told(0, 6), 0b1110000000);
        due.is("11 goes, the bound", x.told(0, 8), 1099);
        Due.law(x, "curious 20;dreads 10;goes bad-99*(bad=0);");
        due.is("11 goes: bad of none is 0", x.told(0, 8), 1000 - 99);
        Due.law(x, "curious 20;dreads 10;goes 99;");
        due.is("11 a DEAF goes less", x.told(2, 8), 1000 - 99);
        due.is("11 a HUMMER goes MORE more", x.told(4, 8), 1000 - 99 + 2);
    }

    private static void toldListens() {
        for (int hour = 0; hour < 4; hour++) {
            CrierOfBorough x = kinds(hour);
            boolean deafHears = hour != 2;
            int[] up = {1, 1, bit(deafHears), 1, bit(deafHears), 1};
            for (int p = 0; p < 6; p++) {
                due.is("11 listens " + p + " at " + hour, x.told(p, 7), up[p]);
                x.put(p, 3, 0);
                due.is("11 listens, down " + p + " at " + hour, x.told(p, 7), bit(p == 3));
            }
        }
        CrierOfBorough y = new CrierOfBorough();
        y.citizen(27, 0, 0);
        y.borough(0, 7);
        due.is("11 HOUR 7, MORE 7", y.told(0, 7), 0);
        y.borough(0, 9);
        due.is("11 HOUR 9, MORE 7", y.told(0, 7), 1);
        y.borough(0, 10);
        due.is("11 HOUR 10, MORE 7", y.told(0, 7), 0);
    }

    private static void ring() {
        CrierOfBorough x = new CrierOfBorough();
        x.citizen(0, 3, 0b11);
        x.citizen(21, 3, 0b1100);
        x.citizen(30, 3, 0b10000);
        x.citizen(0, 4, 0b100000);
        x.put(2, 3, 0);
        x.borough(2, 0b1111100001);
        due.is("12 at 3", x.ring(3, 0), 0b111);
        due.is("12 listen at 3", x.ring(3, 1), 0b111);
        due.is("12 may at 3", x.ring(3, 2), 0b1111100000);
        due.is("12 of news at 3", x.ring(3, 3), 0b1111100000);
        x.borough(0, 1);
        due.is("12 at 3, hour 1", x.ring(3, 0), 0b111);
        due.is("12 listen at 3, hour 1", x.ring(3, 1), 0b101);
        due.is("12 may at 3, hour 1", x.ring(3, 2), 0b1111111100);
        due.is("12 of news at 3, hour 1", x.ring(3, 3), 0b1111100000);
        x.put(0, 3, 0);
        due.is("12 listen at 3, one window down", x.ring(3, 1), 0b100);
        due.is("12 of news at 3, one window down", x.ring(3, 3), 0b1111100001);
        due.is("12 at 4", x.ring(4, 0), 0b1000);
        due.is("12 of news at 4", x.ring(4, 3), 0b1111000001);
        due.is("12 nobody at 8", x.ring(8, 2), 1023);
        for (int c : new int[] {-1, 9, MIN, MAX}) {
            due.is("12 no such corner " + c, x.ring(c, 0), -5);
            due.is("12 no such corner ahead of what " + c, x.ring(c, 4), -5);
        }
        for (int what : new int[] {-1, 4, MIN, MAX}) {
            due.is("12 what " + what, x.ring(0, what), -7);
        }
    }

    public static void main(String[] args) {
        newObject();
        lastCalls();
        count();
        borough();
        crier();
        feed();
        texts();
        faults();
        depth();
        worths();
        force();
        asks();
        citizen();
        put();
        told();
        ring();
        due.end();
    }
}
