/** Promises 13 to 21: hours, and what is best. */
public final class HoursTest {
    private static final Due due = new Due("HoursTest");
    private static final int MIN = Integer.MIN_VALUE, MAX = Integer.MAX_VALUE;
    private static final int[] FAR = {-1, MIN, MAX};

    /** A CITIZEN that stays at 0 and wants these; the crier is at 0. */
    private static CrierOfBorough oneAtNought(int wanted) {
        CrierOfBorough x = new CrierOfBorough();
        x.citizen(0, 0, wanted);
        return x;
    }

    private static void hour() {
        CrierOfBorough x = oneAtNought(0b101);
        due.is("13 the first that nobody wishes", x.hour(), 1);
        due.is("13 not of news any more", x.crier(2), 1021);
        due.is("13 known to who listens", x.told(0, 2), 2);
        due.is("13 the crier goes on", x.crier(1), 1);
        due.is("13 an hour more", x.crier(0), 1);
        due.is("13 the next", x.hour(), 0);
        due.is("13 not known elsewhere", x.told(0, 2), 2);
        x.borough(1, 8);
        x.borough(2, 0);
        due.is("13 nothing is cried", x.hour(), -1);
        due.is("13 behind 8 is 0", x.crier(1), 0);
        due.is("13 and an hour more", x.crier(0), 3);
        x.borough(0, 9998);
        x.borough(2, 1023);
        due.is("13 the last", x.hour(), 1);
        due.is("13 9999", x.crier(0), 9999);
        due.is("13 STATE", x.hour(), -3);
        due.is("13 nothing by STATE", x.crier(1), 1);
        due.is("13 nothing by STATE", x.crier(2), 1021);
        CrierOfBorough y = oneAtNought(1023);
        due.is("13 all are wished", y.hour(), -1);
        due.is("13 the crier goes on all the same", y.crier(1), 1);
    }

    private static void gossip() {
        CrierOfBorough x = new CrierOfBorough();
        x.citizen(0, 5, 0);
        x.citizen(0, 5, 0b11000);
        x.citizen(0, 6, 0b11000);
        x.put(0, 2, 0b101000);
        x.put(1, 3, 0);
        due.is("13 cried elsewhere", x.hour(), 0);
        due.is("13 what one wishes gets about", x.told(1, 2), 0b1000);
        due.is("13 not what one doesn't wish", x.told(0, 2), 0b101000);
        due.is("13 not to another corner", x.told(2, 2), 0);
        CrierOfBorough y = new CrierOfBorough();
        y.citizen(0, 0, 0);
        y.citizen(0, 0, 1);
        y.put(1, 3, 0);
        due.is("13 a window down", y.hour(), 0);
        due.is("13 heard", y.told(0, 2), 1);
        due.is("13 and told on in the same hour", y.told(1, 2), 1);
        CrierOfBorough z = new CrierOfBorough();
        z.citizen(0, 0, 0);
        z.citizen(0, 0, 0);
        z.put(1, 3, 0);
        z.hour();
        due.is("13 not heard, not wanted", z.told(1, 2), 0);
        CrierOfBorough w = new CrierOfBorough();
        w.citizen(30, 4, 0b10);
        w.citizen(50, 4, 0b10);
        w.citizen(45, 4, 0b10);
        w.put(0, 2, 0b01);
        w.borough(0, 1);
        w.put(1, 2, 0b110);
        w.hour();
        due.is("13 a WIFE in an odd hour", w.told(0, 2), 0b01);
        due.is("13 a STRANGER wishes never", w.told(1, 2), 0b110);
        due.is("13 a HUMMER what a DEAF doesn't", w.told(2, 2), 0b101);
        w.put(2, 0, 4);
        w.hour();
        due.is("13 a WIFE in an even hour", w.told(0, 2), 0b11);
    }

    private static void going() {
        CrierOfBorough x = new CrierOfBorough();
        Due.law(x, "curious 50;dreads bad;goes 0-10;");
        x.citizen(0, 0, 0);
        x.citizen(10, 1, 0);
        x.citizen(20, 2, 0);
        x.citizen(30, 3, 0);
        x.citizen(47, 4, 0);
        x.citizen(58, 5, 0);
        x.hour();
        int[] at = {8, 1, 3, 3, 3, 4};
        for (int p = 0; p < 6; p++) {
            due.is("13 goes " + p, x.told(p, 0), at[p]);
        }
        CrierOfBorough y = new CrierOfBorough();
        Due.law(y, "curious 50;dreads bad;goes 100*known+hour+corner;");
        y.citizen(0, 0, 0);
        y.citizen(0, 4, 0);
        y.borough(0, 5);
        y.hour();
        due.is("13 goes by what is known then, the bound", y.told(0, 0), 0);
        due.is("13 goes by the hour and the corner", y.told(1, 0), 4);
        y.hour();
        due.is("13 goes round", y.told(1, 0), (4 + 6 + 4) % 9);
        CrierOfBorough z = new CrierOfBorough();
        Due.law(z, "curious 50;dreads bad;goes 1;");
        z.citizen(0, 5, 0);
        z.citizen(10, 6, 0b1000);
        z.put(0, 2, 0b1000);
        z.hour();
        due.is("13 told ahead of going", z.told(1, 2), 0);
        z.hour();
        due.is("13 told behind going", z.told(1, 2), 0b1000);
        due.is("13 then gone on", z.told(0, 0), 7);
    }

    private static void run() {
        CrierOfBorough x = oneAtNought(1023);
        x.citizen(13, 1, 0);
        x.put(0, 2, 0b1000000001);
        due.is("14 0 hours", x.run(0, 0), 1023);
        due.is("14 0 hours cried", x.run(0, 1), 0);
        due.is("14 0 hours known to all, together", x.run(0, 2), 2);
        due.is("14 1 hour", x.run(1, 0), 1022);
        due.is("14 1 hour cried", x.run(1, 1), 1);
        due.is("14 3 hours", x.run(3, 0), 0b1111111000);
        due.is("14 3 hours known to all, together", x.run(3, 2), 3);
        due.is("14 9 hours", x.run(9, 1), 9);
        due.is("14 10 hours: 9 is known to one, 10 times", x.run(10, 1), 10);
        due.is("14 40 hours", x.run(40, 0), 0);
        due.is("14 corner of 1", x.run(40, 11), 1);
        due.is("14 known to 1", x.run(9, 21), 0b10);
        due.is("14 known to 0", x.run(9, 20), 0b1000000001);
        due.is("14 in thought", x.crier(0), 0);
        due.is("14 in thought", x.crier(2), 1023);
        due.is("14 in thought", x.told(1, 2), 0);
        for (int far : FAR) {
            due.is("14 n " + far, x.run(far, 0), -2);
            due.is("14 what " + far, x.run(0, far), -2);
        }
        due.is("14 n 41", x.run(41, 0), -2);
        for (int what : new int[] {3, 9, 12, 19, 22, 25, 30, MIN + 10, MIN + 20}) {
            due.is("14 what " + what, x.run(3, what), -2);
        }
        CrierOfBorough y = oneAtNought(0);
        y.citizen(43, 0, 0);
        y.citizen(21, 1, 0);
        due.is("14 MORE of a HUMMER", y.run(2, 11), 6);
        due.is("14 MORE of a DEAF at hour 1", y.run(2, 22), 0);
        y.borough(0, 1);
        due.is("14 MORE of a DEAF at hour 2, with none cried to the HUMMER", y.run(2, 22), 0b1);
        Due.law(x, "curious 50;dreads bad;goes 2;");
        due.is("14 who goes", x.run(3, 10), 6);
        x.borough(0, 9990);
        Due.law(x, "curious 50;dreads bad;goes (hour = 9999 + 1) + (9999 < hour);");
        due.is("14 past 9999", x.run(40, 10), (2 + 29) % 9);
    }

    private static void when() {
        CrierOfBorough x = oneAtNought(1023);
        x.citizen(0, 1, 0);
        due.is("15 thing 0", x.when(0), 2);
        due.is("15 thing 7", x.when(7), 9);
        due.is("15 thing 8", x.when(8), 11);
        due.is("15 thing 9", x.when(9), 12);
        due.is("15 all", x.when(10), 12);
        due.is("15 known to who hears it", x.when(30), 2);
        due.is("15 known to who hears it", x.when(38), 11);
        due.is("15 not by then", x.when(31), -1);
        due.is("15 not by then", x.when(20), -1);
        x.put(1, 2, 0b10);
        due.is("15 known now", x.when(31), 0);
        x.borough(2, 0b110);
        due.is("15 not of news now", x.when(0), 0);
        due.is("15 of news", x.when(1), 2);
        x.borough(2, 0);
        due.is("15 no news now", x.when(10), 0);
        for (int what : new int[] {-1, 11, 19, 40, 49, 79, 80, 100, MIN, MAX, -20}) {
            due.is("15 what " + what, x.when(what), -7);
        }
        due.is("15 nobody", new CrierOfBorough().when(20), -7);
        CrierOfBorough y = oneAtNought(1);
        Due.law(y, "curious 99-hour;dreads 41;goes 1;");
        y.borough(2, 1);
        due.is("15 in the 60th hour", y.when(0), 60);
        due.is("15 in the 60th hour", y.when(10), 60);
        due.is("15 in the 60th hour", y.when(20), 60);
        Due.law(y, "curious 99-hour;dreads 40;goes 1;");
        due.is("15 in the 61st hour", y.when(0), -1);
        due.is("15 in the 61st hour", y.when(10), -1);
        due.is("15 in thought", y.crier(0), 0);
    }

    private static void where() {
        CrierOfBorough x = oneAtNought(0b11);
        due.is("16 where", x.where(0), 1);
        due.is("16 how many", x.where(1), 10);
        x.borough(2, 0b11100);
        due.is("16 of like ones the first", x.where(0), 0);
        due.is("16 of news", x.where(1), 3);
        x.borough(2, 0b00110);
        x.citizen(0, 1, 0b100);
        due.is("16 neither", x.where(0), 2);
        x.put(1, 1, 0b110);
        x.put(0, 3, 0);
        due.is("16 a window down", x.where(0), 0);
        x.borough(2, 0);
        due.is("16 no news", x.where(0), 0);
        due.is("16 no news", x.where(1), 0);
        for (int what : new int[] {-1, 2, MIN, MAX}) {
            due.is("16 what " + what, x.where(what), -2);
        }
    }

    private static void begin() {
        CrierOfBorough x = oneAtNought(1023);
        due.is("17 no hours", x.begin(0, 0), 0);
        due.is("17 no hours", x.begin(0, 1), 0);
        due.is("17 one hour", x.begin(1, 0), 1);
        due.is("17 one hour", x.begin(1, 1), 1);
        due.is("17 eight hours", x.begin(8, 0), 1);
        due.is("17 eight hours", x.begin(8, 1), 8);
        due.is("17 nine hours", x.begin(9, 0), 0);
        due.is("17 nine hours", x.begin(9, 1), 8);
        due.is("17 ten hours", x.begin(10, 0), 1);
        due.is("17 ten hours", x.begin(10, 1), 9);
        due.is("17 forty hours", x.begin(40, 0), 0);
        due.is("17 forty hours", x.begin(40, 1), 10);
        x.borough(1, 5);
        due.is("17 wherever he is", x.begin(10, 0), 1);
        due.is("17 in thought", x.crier(1), 5);
        for (int far : FAR) {
            due.is("17 n " + far, x.begin(far, 0), -7);
            due.is("17 what " + far, x.begin(0, far), -7);
        }
        due.is("17 n 41", x.begin(41, 0), -7);
        due.is("17 what 2", x.begin(4, 2), -7);
    }

    private static void windows() {
        CrierOfBorough x = oneAtNought(1023);
        due.is("18 down", x.windows(1, 0), 0);
        due.is("18 down", x.windows(1, 1), 1);
        due.is("18 not more than so", x.windows(40, 0), -1);
        due.is("18 as so", x.windows(40, 1), 10);
        due.is("18 no hours", x.windows(0, 0), -1);
        due.is("18 no hours", x.windows(0, 1), 0);
        x.put(0, 3, 0);
        due.is("18 up would be worse", x.windows(1, 0), -1);
        due.is("18 as so", x.windows(1, 1), 1);
        x.put(0, 3, 1);
        x.citizen(0, 0, 1);
        due.is("18 one is not enough", x.windows(1, 0), 0);
        x.put(0, 1, 1);
        x.borough(2, 1);
        due.is("18 none is enough", x.windows(1, 0), -1);
        due.is("18 none is enough", x.windows(1, 1), 0);
        x.put(0, 1, 0);
        due.is("18 the other one", x.windows(1, 0), 1);
        due.is("18 in thought", x.told(1, 3), 1);
        CrierOfBorough w = new CrierOfBorough();
        w.citizen(30, 0, 1023);
        due.is("18 a WIFE listens always", w.windows(1, 0), -1);
        due.is("18 a WIFE listens always", w.windows(1, 1), 0);
        CrierOfBorough y = new CrierOfBorough();
        Due.law(y, "curious 50-60*known;dreads 1;goes 0-1;");
        y.citizen(0, 0, 0);
        y.citizen(20, 0, 1023);
        y.put(0, 3, 0);
        due.is("18 as so", y.run(2, 1), 1);
        due.is("18 up: he hears it, tells the DEAF, who has enough", y.windows(2, 0), 0);
        due.is("18 up", y.windows(2, 1), 2);
        CrierOfBorough z = new CrierOfBorough();
        for (int p = 0; p < 6; p++) {
            z.citizen(0, p < 5 ? 3 : 0, 1023);
        }
        due.is("18 the last of six", z.windows(1, 0), 5);
        due.is("18 nobody there", new CrierOfBorough().windows(3, 0), -1);
        for (int far : FAR) {
            due.is("18 n " + far, x.windows(far, 0), -7);
            due.is("18 what " + far, x.windows(0, far), -7);
        }
        due.is("18 n 41", x.windows(41, 0), -7);
        due.is("18 what 2", x.windows(4, 2), -7);
    }

    private static void hush() {
        CrierOfBorough x = new CrierOfBorough();
        x.citizen(0, 3, 0b100000);
        x.citizen(0, 3, 0);
        x.citizen(11, 3, 0b100000);
        x.citizen(0, 4, 0b100000);
        due.is("19 who wishes it", x.hush(3, 5, 0), 0b101);
        due.is("19 how many", x.hush(3, 5, 1), 2);
        due.is("19 nobody need", x.hush(3, 4, 0), 0);
        due.is("19 nobody need", x.hush(3, 4, 1), 0);
        due.is("19 another corner", x.hush(4, 5, 0), 0b1000);
        due.is("19 nobody there", x.hush(5, 5, 0), 0);
        due.is("19 the first corner and thing", x.hush(0, 0, 0), 0);
        due.is("19 the last corner and thing", x.hush(8, 9, 0), 0);
        x.borough(2, 0);
        due.is("19 of news or not", x.hush(3, 5, 0), 0b101);
        x.put(0, 3, 0);
        due.is("19 one that doesn't listen", x.hush(3, 5, 0), 0b100);
        x.put(2, 2, 0b100000);
        due.is("19 known", x.hush(3, 5, 0), 0);
        x.put(0, 3, 1);
        x.citizen(30, 3, 0b100000);
        due.is("19 a WIFE listens always", x.hush(3, 5, 0), -1);
        due.is("19 a WIFE listens always", x.hush(3, 5, 1), -1);
        x.borough(0, 1);
        due.is("19 a WIFE in an odd hour", x.hush(3, 5, 0), 1);
        due.is("19 in thought", x.told(0, 3), 1);
        for (int c : new int[] {-1, 9, MIN, MAX}) {
            due.is("19 no such corner " + c, x.hush(c, 0, 0), -5);
            due.is("19 no such corner ahead " + c, x.hush(c, 10, 2), -5);
        }
        for (int t : new int[] {-1, 10, MIN, MAX}) {
            due.is("19 t " + t, x.hush(3, t, 0), -7);
        }
        for (int what : new int[] {-1, 2, MIN, MAX}) {
            due.is("19 what " + what, x.hush(3, 5, what), -7);
        }
    }

    private static void round() {
        CrierOfBorough x = new CrierOfBorough();
        due.is("20 the least", x.round(0), 1);
        due.is("20 one", x.round(1), 1);
        due.is("20 none nowhere", x.round(2), 0);
        x.citizen(0, 0, 0b1);
        x.citizen(0, 1, 0b10);
        due.is("20 one is fewer than two", x.round(0), 0b100);
        due.is("20 one", x.round(1), 1);
        x.borough(2, 0b1);
        due.is("20 of news alone", x.round(0), 0b10);
        x.borough(2, 0b100);
        due.is("20 of like ones the least", x.round(0), 0b1);
        x.borough(2, 0);
        due.is("20 no news", x.round(0), 0);
        due.is("20 no news", x.round(1), 0);
        due.is("20 no news", x.round(2), 0);
        x.borough(2, 1023);
        for (int p = 2; p < 6; p++) {
            x.citizen(0, p, 1 << p);
        }
        due.is("20 past all six", x.round(0), 0b1000000);
        x.put(2, 3, 0);
        due.is("20 a window down", x.round(0), 0b100);
        due.is("20 a corner without anybody says all", x.round(2), 0);
        for (int what : new int[] {-1, 3, MIN, MAX}) {
            due.is("20 what " + what, x.round(what), -2);
        }
    }

    private static void mean() {
        CrierOfBorough x = new CrierOfBorough();
        due.is("21 nothing bad", x.mean(0), 0);
        due.is("21 nothing bad", x.mean(1), 1);
        x.borough(3, 99);
        x.borough(12, 50);
        due.is("21 149 by 10", x.mean(0), 149);
        due.is("21 149 by 10", x.mean(1), 10);
        x.borough(12, 51);
        due.is("21 150 by 10", x.mean(0), 15);
        due.is("21 150 by 10", x.mean(1), 1);
        x.borough(2, 0b0000011111);
        x.borough(4, 6);
        due.is("21 of news: 105 by 5", x.mean(0), 21);
        x.borough(2, 0b0000001111);
        due.is("21 of news: 105 by 4", x.mean(0), 105);
        due.is("21 of news: 105 by 4", x.mean(1), 4);
        x.borough(2, 0b0000111111);
        due.is("21 105 by 6", x.mean(0), 35);
        due.is("21 105 by 6", x.mean(1), 2);
        for (int part : new int[] {-1, 2, MIN, MAX}) {
            due.is("21 part " + part, x.mean(part), CrierOfBorough.NO);
        }
        x.borough(2, 1);
        due.is("21 one: 99 by 1", x.mean(0), 99);
        x.borough(2, 0);
        due.is("21 there are none", x.mean(0), CrierOfBorough.NO);
        due.is("21 there are none", x.mean(1), CrierOfBorough.NO);
    }

    public static void main(String[] args) {
        hour();
        gossip();
        going();
        run();
        when();
        where();
        begin();
        windows();
        hush();
        round();
        mean();
        due.end();
    }
}
