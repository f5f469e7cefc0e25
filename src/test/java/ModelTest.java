import java.lang.reflect.Method;
import java.util.ArrayList;
import java.util.List;

/** The program and the Model, asked the same: runs of 512 calls by a fixed row of numbers. */
public final class ModelTest {
    private static long lot = 20261118;
    private static Method[] calls;

    private static int below(int n) {
        lot = lot * 6364136223846793005L + 1442695040888963407L;
        return (int) Math.floorMod(lot >>> 33, (long) n);
    }

    private static int pick(int... of) {
        return of[below(of.length)];
    }

    /** Mostly a number that is as told; now and then one beside it, or far off. */
    private static int from(int least, int most) {
        int luck = below(40);
        if (luck == 0) {
            return pick(least - 1, most + 1, Integer.MIN_VALUE, Integer.MAX_VALUE, least - 2, most + 7);
        }
        return luck < 5 ? pick(least, most) : least + below(most - least + 1);
    }

    private static int set() {
        return pick(from(0, 1023), from(0, 1023) & below(1024), 1023, 0, 1 << below(10));
    }

    // ---- texts

    private static String expression(int depth) {
        int luck = depth <= 0 ? below(4) : below(13);
        switch (luck) {
            case 0: return "" + below(pick(10, 100, 10000));
            case 1:
            case 2:
            case 3: return new String[] {"bad", "corner", "known", "wanted", "hour", "more"}[below(6)];
            case 4: return "(" + expression(depth - 1) + ")";
            case 5: return "-" + expression(depth - 1);
            case 6: return expression(depth - 1) + "*" + expression(depth - 1);
            case 7: return "not " + expression(depth - 1);
            case 8: return expression(depth - 1) + " and " + expression(depth - 1);
            case 9: return expression(depth - 1) + " or " + expression(depth - 1);
            default: return expression(depth - 1) + pick('+', '-', '<', '=') + expression(depth - 1);
        }
    }

    private static String expressionOf(int most) {
        String e = expression(3).replace("43", "-").replace("45", "+").replace("60", "<").replace("61", "=");
        return e.length() > most ? "" + below(60) : e;
    }

    private static String law() {
        int shape = below(12);
        if (shape == 0) {
            return "curious " + nested() + ";dreads bad;goes 1;";
        }
        String all = "curious " + expressionOf(60) + (below(2) == 0 ? ";" : " ;\n") + "dreads "
                + pickOf(expressionOf(50), "bad", "bad") + ";goes " + pickOf(expressionOf(40), "" + below(9), "-" + below(120)) + ";";
        if (shape == 1) {
            int cut = below(all.length() + 1);
            return all.substring(0, cut);
        }
        if (shape == 2) {
            int at = below(all.length());
            return all.substring(0, at) + pickOf("@", "12345", " not ", " or ", "(", ")", ";", "-", "<", "goes", " x ", "A", "\t", "\u00e9") + all.substring(at);
        }
        if (shape == 3) {
            int at = below(all.length());
            return all.substring(0, at) + all.substring(at + 1);
        }
        return all;
    }

    private static String nested() {
        StringBuilder b = new StringBuilder();
        StringBuilder shut = new StringBuilder();
        for (int i = below(4) + 4; i > 0; i--) {
            String o = pickOf("(", "-", " not ", "(1+", "(not ");
            b.append(o);
            shut.append(o.startsWith("(") ? pickOf(")", "*2)") : "");
        }
        return b + "3" + shut + pickOf("", "-2", "<1", " and 1");
    }

    private static String pickOf(String... of) {
        return of[below(of.length)];
    }

    // ---- calls

    private static List<int[]> feeding(String s, int feed) {
        List<int[]> rows = new ArrayList<>();
        for (int i = 0; i < s.length(); i += 5) {
            int n = Math.min(5, s.length() - i);
            int[] row = {feed, n, 0, 0, 0, 0, 0};
            for (int k = 0; k < n; k++) {
                row[2 + k] = s.charAt(i + k);
            }
            rows.add(row);
        }
        return rows;
    }

    private static int index(String name) {
        for (int i = 0; i < calls.length; i++) {
            if (calls[i].getName().equals(name)) {
                return i;
            }
        }
        throw new IllegalStateException(name);
    }

    private static int[] arguments(String name) {
        switch (name) {
            case "count": return new int[] {from(0, 5)};
            case "borough": {
                int what = from(0, 12);
                return new int[] {what, what == 0 ? pick(from(0, 9999), below(9), 9990 + below(10)) : what == 1 ? from(0, 8)
                        : what == 2 ? pick(1023, set()) : from(0, 99)};
            }
            case "crier": return new int[] {from(0, 13)};
            case "feed": return new int[] {from(1, 5), from(0, 255), from(0, 255), from(0, 255), from(0, 255), from(0, 255)};
            case "force": return new int[] {from(0, 5)};
            case "asks": return new int[] {from(0, 2), from(0, 5), from(-1, 9)};
            case "citizen": return new int[] {from(0, 59), pick(from(0, 8), from(0, 2)), set()};
            case "put": {
                int what = from(0, 3);
                return new int[] {from(0, 5), what, what == 0 ? from(0, 8) : what == 3 ? from(0, 1) : set()};
            }
            case "told": return new int[] {from(0, 5), from(0, 8)};
            case "ring": return new int[] {from(0, 8), from(0, 3)};
            case "run": return new int[] {from(0, 40), pick(from(0, 2), from(10, 15), from(20, 25))};
            case "when": return new int[] {pick(from(0, 10), from(20, 79))};
            case "where": return new int[] {from(0, 1)};
            case "begin":
            case "windows": return new int[] {pick(from(0, 12), from(0, 40)), from(0, 1)};
            case "hush": return new int[] {from(0, 8), from(0, 9), from(0, 1)};
            case "round": return new int[] {from(0, 2)};
            case "mean": return new int[] {from(0, 1)};
            case "judge":
            case "laws": return new int[] {from(0, 3)};
            case "kinds":
            case "evils": return new int[] {from(0, 3), from(0, 5), from(0, 1)};
            case "corners": return new int[] {from(0, 3), from(-1, 5)};
            case "turned": return new int[] {from(0, 3), from(0, 5), from(1, 2)};
            case "film": return new int[] {from(0, 3), pick(from(0, 20), from(0, 6))};
            case "drawn": return new int[] {from(0, 99999), from(0, 1)};
            case "odds": return new int[] {from(0, 99999), from(1, 40), from(0, 10), from(0, 1)};
            case "sheet": return new int[] {from(0, 3), from(-1, 2), pick(from(0, 40), from(0, 12))};
            case "cell": return new int[] {from(0, 3), pick(from(0, 39), from(0, 10)), pick(from(0, 10), from(0, 59), set(), below(70000) - 300)};
            case "copy": return new int[] {from(0, 3), pick(0, from(0, 20)), from(0, 3), pick(0, from(0, 20)), pick(from(0, 10), from(0, 40))};
            case "peopleBy": return new int[] {from(0, 3), from(0, 2), pick(0, from(0, 30)), from(0, 6)};
            case "taken": return new int[] {from(0, 11), from(0, 6)};
            default: return new int[0];
        }
    }

    private static boolean isRare(String name) {
        return (name.equals("sheet") || name.equals("back") || name.equals("cell")) && below(3) > 0;
    }

    private static void nextCalls(List<int[]> due) {
        if (below(50) == 0) {
            due.addAll(feeding(law(), index("feed")));
            due.add(new int[] {index("text")});
            due.add(new int[] {index("force"), from(0, 5)});
            return;
        }
        int i = below(calls.length);
        String name = calls[i].getName();
        if (isRare(name)) {
            return;
        }
        int[] arguments = arguments(name);
        int[] row = new int[arguments.length + 1];
        row[0] = i;
        System.arraycopy(arguments, 0, row, 1, arguments.length);
        due.add(row);
    }

    private static boolean isAlike(int run, Method other, Method call, Object x, Model y, int[] row) throws Exception {
        Object[] arguments = new Object[row.length - 1];
        for (int i = 1; i < row.length; i++) {
            arguments[i - 1] = row[i];
        }
        Object got = call.invoke(x, arguments);
        Object want = other.invoke(y, arguments);
        if (got.equals(want)) {
            return true;
        }
        System.out.println("run " + run + ": " + call.getName() + java.util.Arrays.toString(arguments) + " answered " + got + ", the model says " + want);
        return false;
    }

    public static void main(String[] args) throws Exception {
        int runs = args.length > 0 ? Integer.parseInt(args[0]) : 300;
        if (args.length > 1) {
            lot = Long.parseLong(args[1]);
        }
        List<Method> all = new ArrayList<>(List.of(CrierOfBorough.class.getDeclaredMethods()));
        all.removeIf(m -> !java.lang.reflect.Modifier.isPublic(m.getModifiers()));
        all.sort(java.util.Comparator.comparing(Method::getName));
        calls = all.toArray(new Method[0]);
        Method[] others = new Method[calls.length];
        for (int i = 0; i < calls.length; i++) {
            others[i] = Model.class.getMethod(calls[i].getName(), calls[i].getParameterTypes());
        }
        int wrong = 0;
        for (int run = 0; run < runs && wrong < 10; run++) {
            CrierOfBorough x = new CrierOfBorough();
            Model y = new Model();
            List<int[]> due = new ArrayList<>();
            for (int i = below(7); i > 0; i--) {
                int[] a = arguments("citizen");
                due.add(new int[] {index("citizen"), a[0], a[1], a[2]});
            }
            for (int n = 0; n < 512; n++) {
                while (due.isEmpty()) {
                    nextCalls(due);
                }
                int[] row = due.remove(0);
                if (!isAlike(run, others[row[0]], calls[row[0]], x, y, row)) {
                    wrong++;
                    break;
                }
            }
        }
        System.out.println(wrong == 0 ? runs + " runs are alike" : wrong + " runs are not alike");
        if (wrong != 0) {
            System.exit(1);
        }
    }
}
