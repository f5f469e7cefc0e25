/** What the tests of the promises share: a tally of answers, and texts put in by feed(). */
final class Due {
    private final String file;
    private int wrong;
    private int asked;

    Due(String file) {
        this.file = file;
    }

    void is(String call, long got, long want) {
        asked++;
        if (got != want) {
            wrong++;
            System.out.println(file + ": " + call + " answered " + got + ", due is " + want);
        }
    }

    void end() {
        System.out.println(file + ": " + asked + " answers, " + wrong + " not as due");
        if (wrong != 0 || asked == 0) {
            System.exit(1);
        }
    }

    static void feedAll(CrierOfBorough x, String s) {
        for (int i = 0; i < s.length(); i++) {
            x.feed(1, s.charAt(i), 0, 0, 0, 0);
        }
    }

    static int textOf(CrierOfBorough x, String s) {
        feedAll(x, s);
        return x.text();
    }

    /** A TEXT that is THE LAW at once. */
    static void law(CrierOfBorough x, String s) {
        int t = textOf(x, s);
        if (t < 0) {
            throw new IllegalArgumentException("no text: " + s);
        }
        x.force(t);
    }

    /** A SHEET of bytes with these numbers. */
    static void row(CrierOfBorough x, int s, int... numbers) {
        x.sheet(s, 0, numbers.length);
        for (int i = 0; i < numbers.length; i++) {
            x.cell(s, i, numbers[i]);
        }
    }
}
