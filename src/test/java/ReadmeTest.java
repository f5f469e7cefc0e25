import java.nio.file.Files;
import java.nio.file.Path;
import java.util.HashSet;
import java.util.Locale;
import java.util.Set;
import java.util.regex.Matcher;
import java.util.regex.Pattern;

/** Each call that README.md shows has the answer that it tells; every call of the face is shown, where it belongs. */
public final class ReadmeTest {
    private static final Pattern CALL = Pattern.compile("x\\.(\\w+)\\(([^)]*)\\); +// (-?\\d+)(:.*)?");
    private static final Pattern MADE = Pattern.compile("(CrierOfBorough )?x = new CrierOfBorough\\(\\);");
    private static final Pattern GROUP = Pattern.compile("Ahead of the calls (.*) the interface says: ---- (.*)\\.");
    private static final Pattern CONSTANT = Pattern.compile("`([A-Z]+)` \\| (-?\\d+) \\|");
    private static final Due DUE = new Due("ReadmeTest");

    private static CrierOfBorough x;
    private static Model model;
    private static int calls;

    private static int[] numbers(String arguments) {
        String[] words = arguments.isEmpty() ? new String[0] : arguments.split(", ");
        int[] all = new int[words.length];
        for (int i = 0; i < all.length; i++) {
            all[i] = words[i].startsWith("'") ? words[i].charAt(1) : Integer.parseInt(words[i]);
        }
        return all;
    }

    private static long answer(Object of, String name, int[] arguments) throws ReflectiveOperationException {
        Class<?>[] types = new Class<?>[arguments.length];
        Object[] boxed = new Object[arguments.length];
        for (int i = 0; i < arguments.length; i++) {
            types[i] = int.class;
            boxed[i] = arguments[i];
        }
        return ((Number) of.getClass().getMethod(name, types).invoke(of, boxed)).longValue();
    }

    private static void line(String line) throws ReflectiveOperationException {
        if (MADE.matcher(line).matches()) {
            x = new CrierOfBorough();
            model = new Model();
            calls = 0;
            return;
        }
        Matcher m = CALL.matcher(line);
        if (!m.matches() || x == null) {
            DUE.is("no call with its answer: " + line, 0, 1);
            return;
        }
        calls++;
        DUE.is("more than 512 calls: " + line, calls > 512 ? 1 : 0, 0);
        long told = Long.parseLong(m.group(3));
        DUE.is(line, answer(x, m.group(1), numbers(m.group(2))), told);
        DUE.is("the Model of " + line, answer(model, m.group(1), numbers(m.group(2))), told);
    }

    /** Java blocks of a piece of README.md, line by line. */
    private static String[] shown(String piece) {
        StringBuilder all = new StringBuilder();
        Matcher m = Pattern.compile("```java\n(.*?)```", Pattern.DOTALL).matcher(piece);
        while (m.find()) {
            all.append(m.group(1));
        }
        return all.toString().split("\n");
    }

    private static void group(String readme, String title, String[] names) {
        String heading = "### " + title.substring(0, 1).toUpperCase(Locale.ROOT) + title.substring(1).replaceFirst("^the", "he") + "\n";
        int at = readme.indexOf(heading);
        DUE.is("there is a heading " + heading.trim(), at >= 0 ? 1 : 0, 1);
        if (at < 0) {
            return;
        }
        int end = readme.indexOf("\n##", at + 1);
        Set<String> here = new HashSet<>();
        for (String line : shown(readme.substring(at, end))) {
            Matcher m = CALL.matcher(line);
            if (m.matches()) {
                here.add(m.group(1));
            }
        }
        for (String name : names) {
            DUE.is(name + " is shown under " + heading.trim(), here.contains(name.replace("`", "")) ? 1 : 0, 1);
        }
    }

    private static void groups(String readme, String document) {
        Matcher m = GROUP.matcher(document);
        int many = 0;
        while (m.find()) {
            many++;
            group(readme, m.group(2), m.group(1).split(", "));
        }
        DUE.is("groups of the interface", many, 6);
    }

    private static void constants(String readme) throws ReflectiveOperationException {
        Matcher m = CONSTANT.matcher(readme);
        int many = 0;
        while (m.find()) {
            many++;
            long value = ((Number) CrierOfBorough.class.getField(m.group(1)).get(null)).longValue();
            DUE.is(m.group(1), value, Long.parseLong(m.group(2)));
        }
        DUE.is("constants told", many, 5);
    }

    public static void main(String[] args) throws Exception {
        String readme = Files.readString(Path.of("README.md"));
        for (String line : shown(readme)) {
            line(line);
        }
        groups(readme, Files.readString(Path.of("..", "shared", "DOC.md")));
        constants(readme);
        DUE.end();
    }
}
