import java.lang.reflect.Method;
import java.lang.reflect.Modifier;
import java.util.Arrays;

/** Every call with numbers at and beyond its edges, in every mixture, in three states; as the Model has it. */
public final class EdgesTest {
    private static final int MIN = Integer.MIN_VALUE, MAX = Integer.MAX_VALUE;
    private static final int[] MANY = {MIN, -2, -1, 0, 1, 2, 3, 4, 5, 6, 7, 9, 10, 11, 12, 13, 14, 20, 21, 25, 26, 40, 41, 59, 60, 79, 80, 99, 100, 1023, 1024, 9999, 10000, 99999, 100000, MAX};
    private static final int[] SOME = {MIN, -2, -1, 0, 1, 2, 3, 4, 6, 9, 10, 20, 40, 41, MAX};
    private static final int[] FEW = {MIN, -1, 0, 1, 3, 4, 5, MAX};
    /** Past 512 calls what an object answers is free: so many leave room to make it and to look at it. */
    private static final int CALLS_OF_ONE = 250;
    private static int wrong;
    private static int asked;

    /** How an object is made that is asked: 0 new, 1 some are there, 2 all that has room is there. */
    private static int[][] made(int state) {
        if (state == 0) {
            return new int[0][];
        }
        int[][] some = {{0, 21, 0, 77}, {0, 34, 2, 1000}, {1, 0, 2, 4}, {2, 1, 5}, {4, 4, 60}, {5}};
        if (state == 1) {
            return some;
        }
        int[][] all = {{0, 3, 0, 1023}, {0, 16, 8, 3}, {0, 25, 1, 5}, {0, 32, 0, 9}, {0, 48, 0, 17}, {0, 59, 8, 33},
            {1, 0, 2, 5}, {1, 1, 1, 20}, {1, 2, 0, 40}, {1, 3, 0, 3}, {2, 0, 6}, {2, 3, 6}, {4, 3, 55}, {4, 12, 91},
            {4, 0, 9990}, {6, 3, 1, 3}, {3}, {3}, {3}, {3}, {3}, {5}};
        return all;
    }

    private static void make(Object x, int state) throws Exception {
        String[] names = {"citizen", "sheet", "film", "text", "borough", "image", "put"};
        for (int[] row : made(state)) {
            String name = names[row[0]];
            if (name.equals("text")) {
                String law = "curious 50-7*hour;dreads bad;goes 1;\n\n\n\n";
                for (int i = 0; i + 5 <= law.length(); i += 5) {
                    ask(x, "feed", 5, law.charAt(i), law.charAt(i + 1), law.charAt(i + 2), law.charAt(i + 3), law.charAt(i + 4));
                }
            }
            ask(x, name, Arrays.copyOfRange(row, 1, row.length));
        }
    }

    private static Number ask(Object x, String name, int... arguments) throws Exception {
        Class<?>[] types = new Class<?>[arguments.length];
        Arrays.fill(types, int.class);
        return ask(x, x.getClass().getMethod(name, types), arguments);
    }

    private static Number ask(Object x, Method m, int[] arguments) throws Exception {
        Object[] boxed = new Object[arguments.length];
        for (int i = 0; i < boxed.length; i++) {
            boxed[i] = arguments[i];
        }
        return (Number) m.invoke(x, boxed);
    }

    private static String seen(Object x) throws Exception {
        StringBuilder all = new StringBuilder();
        for (int i = 0; i < 14; i++) {
            all.append(ask(x, "crier", i)).append(' ').append(ask(x, "count", i)).append(' ');
        }
        for (int p = 0; p < 6; p++) {
            for (int what = 0; what < 9; what++) {
                all.append(ask(x, "told", p, what)).append(' ');
            }
        }
        for (int s = 0; s < 4; s++) {
            all.append(ask(x, "judge", s)).append(' ');
        }
        return all.toString();
    }

    private static void all(Method call, Method other, int state, int[] arguments, int from, int[] edges) throws Exception {
        if (from < arguments.length) {
            for (int edge : edges) {
                arguments[from] = edge;
                all(call, other, state, arguments, from + 1, edges);
            }
            return;
        }
        if (asked % CALLS_OF_ONE == 0) {
            object = null;
            model = null;
        }
        Object x = objects(state);
        Number got = ask(x, call, arguments);
        Number want = ask(models(state), other, arguments);
        asked++;
        if (!got.equals(want) && wrong++ < 20) {
            System.out.println("state " + state + ": " + call.getName() + Arrays.toString(arguments) + " answered " + got + ", the model says " + want);
        }
        boolean isChange = got.longValue() >= 0 || call.getName().equals("text") || call.getName().equals("hour") || call.getName().equals("peopleBy");
        if (isChange && CHANGES.contains(" " + call.getName() + " ")) {
            object = null;
            model = null;
        }
    }

    private static final String CHANGES = " borough feed text force citizen put hour film image back sheet cell copy peopleBy ";
    private static Object object;
    private static Object model;

    private static Object objects(int state) throws Exception {
        if (object == null) {
            object = new CrierOfBorough();
            make(object, state);
        }
        return object;
    }

    private static Object models(int state) throws Exception {
        if (model == null) {
            model = new Model();
            make(model, state);
        }
        return model;
    }

    public static void main(String[] args) throws Exception {
        for (Method call : CrierOfBorough.class.getDeclaredMethods()) {
            if (!Modifier.isPublic(call.getModifiers())) {
                continue;
            }
            Method other = Model.class.getMethod(call.getName(), call.getParameterTypes());
            int n = call.getParameterCount();
            for (int state = 0; state < 3; state++) {
                object = null;
                model = null;
                String before = seen(objects(state));
                all(call, other, state, new int[n], 0, n < 3 ? MANY : n < 4 ? SOME : n < 5 ? FEW : new int[] {-1, 0, 1, 3, MAX});
                String now = seen(objects(state));
                if (!before.equals(now) || !now.equals(seen(models(state)))) {
                    wrong++;
                    System.out.println("state " + state + ": " + call.getName() + " changed what it should not");
                }
            }
        }
        System.out.println("EdgesTest: " + asked + " answers, " + wrong + " not as due");
        if (wrong != 0 || asked == 0) {
            System.exit(1);
        }
    }
}
