import java.io.IOException;
import java.lang.reflect.Method;
import java.lang.reflect.Modifier;
import java.nio.file.Files;
import java.nio.file.Path;
import java.util.ArrayList;
import java.util.Arrays;
import java.util.HashMap;
import java.util.List;
import java.util.Map;

/**
 * The sentences of the document, each with rows of calls on a new object that hold it up:
 *
 *   call 3 -1,9 0..2 = -5        a call and its answer; of several numbers each is asked, the last ones first
 *   told 0 0..2 = 8 1023 0       .. or as many answers as calls
 *   new                          from here on another new object
 *   tape 'curious 5'             these bytes by feed(); \n is a line's end
 *   blanks 30                    30 bytes 32 by feed()
 *   repeat 3 '+1'                the same bytes 3 times
 *   byte 255                     one byte
 *   text 'curious 5;..' = 1      these bytes, then text()
 *   law 'curious 5;..'           these bytes, then text() and force() of it
 *   row 0 2 = 5 6 7              SHEET 0 becomes a row of sort 2 with these numbers
 *   fine 'E'                     E can stand in each part of a TEXT
 *   fault 'curious ' 'or'        both together, on a new object, have their FAULT where the second begins
 *   wrong '1 ' '2'               the same of an E, in each part of a TEXT
 *   says 'E' = 7                 what E says of one who is told in saysOf()
 *
 * The quoted words must stand in the document, and all words of a promise must be quoted (end()). Each object
 * is made a second time without what was asked of it and what it refused: it must look alike then.
 */
final class Sentences {
    private static final String CHANGES = " borough feed text force citizen put hour film image back sheet cell copy peopleBy ";
    /** So many are promised of an object, and so many of them look() needs. */
    private static final int MOST_CALLS = 512, LOOKS = 14 + 6 + 54 + 8 + 3;

    private final String file;
    private final Map<Integer, String> sections = new HashMap<>();
    private final Map<Integer, boolean[]> quoted = new HashMap<>();
    private int promise;
    private String sentence;
    private CrierOfBorough x;
    private List<Object[]> changes;
    private int calls;
    private int asked;
    private int wrong;

    Sentences(String file) {
        this.file = file;
        readDocument();
    }

    // ---- the document

    private static String oneLine(String s) {
        return s.replaceAll("(?m)^```.*$", " ").replaceAll("======== [12]", " ").replaceAll("\\s+", " ").trim();
    }

    private void readDocument() {
        String all;
        try {
            all = Files.readString(Path.of("..", "shared", "DOC.md"));
        } catch (IOException e) {
            throw new IllegalStateException(e);
        }
        for (String part : all.split("(?m)^## ")) {
            int end = part.indexOf('\n');
            String title = end < 0 ? "" : part.substring(0, end);
            if (title.startsWith("Promise ")) {
                String text = oneLine(part.substring(end));
                int promised = Integer.parseInt(title.substring(8, title.indexOf(':')));
                keep(promised, text.substring(text.indexOf("`: ") + 3));
            } else if (title.equals("Terms")) {
                keep(0, oneLine(part.substring(end, part.indexOf("Ahead of the calls"))));
            }
        }
    }

    private void keep(int section, String text) {
        sections.put(section, text);
        quoted.put(section, new boolean[text.length()]);
    }

    private void quote(int section, String words) {
        String text = sections.getOrDefault(section, "");
        String looked = oneLine(words);
        int at = text.indexOf(looked);
        if (at < 0) {
            tell("these words do not stand in the document");
        }
        for (; at >= 0; at = text.indexOf(looked, at + 1)) {
            Arrays.fill(quoted.get(section), at, at + looked.length(), true);
        }
    }

    private void lookForUnquoted(int section) {
        String text = sections.getOrDefault(section, "");
        StringBuilder left = new StringBuilder();
        for (int i = 0; i < text.length(); i++) {
            left.append(quoted.get(section)[i] ? '\t' : text.charAt(i));
        }
        for (String words : left.toString().split("\t+")) {
            if (!words.isBlank()) {
                wrong++;
                System.out.println(file + ": nothing holds up, of promise " + section + ": " + words.trim());
            }
        }
    }

    // ---- sentences

    /** Promise 0 stands for the Terms. */
    void say(int ofPromise, String words, String rows) {
        promise = ofPromise;
        sentence = words;
        quote(ofPromise, words);
        begin();
        for (String row : rows.split("\n")) {
            if (!row.isBlank() && !row.strip().startsWith("#")) {
                read(row.strip());
            }
        }
        lookTwice();
    }

    /** All that is said must hold, and quote every word of these promises. */
    void end(int... promises) {
        for (int section : promises) {
            lookForUnquoted(section);
        }
        System.out.println(file + ": " + asked + " answers, " + wrong + " not as due");
        if (wrong != 0 || asked == 0) {
            System.exit(1);
        }
    }

    private void tell(String what) {
        wrong++;
        System.out.println(file + ": promise " + promise + " '" + sentence + "': " + what);
    }

    private void begin() {
        x = new CrierOfBorough();
        changes = new ArrayList<>();
        calls = 0;
    }

    private void read(String row) {
        String verb = row.split(" ")[0];
        switch (verb) {
            case "new":
                lookTwice();
                begin();
                break;
            case "tape":
                feed(quotes(row)[0]);
                break;
            case "blanks":
                feed(" ".repeat(Integer.parseInt(row.split(" ")[1])));
                break;
            case "repeat":
                feed(quotes(row)[0].repeat(Integer.parseInt(row.split(" ")[1])));
                break;
            case "byte":
                feed(String.valueOf((char) Integer.parseInt(row.split(" ")[1])));
                break;
            case "law":
                law(quotes(row)[0]);
                break;
            case "row":
                row(row);
                break;
            case "fine":
                eachPart(quotes(row)[0], "");
                break;
            case "fault":
                fault(quotes(row)[0], quotes(row)[1]);
                break;
            case "wrong":
                eachPart(quotes(row)[0], quotes(row)[1]);
                break;
            case "says":
                says(quotes(row)[0], answersOf(row)[0]);
                break;
            default:
                readCall(row, verb);
        }
    }

    private void readCall(String row, String verb) {
        if (row.startsWith("text '")) {
            feed(quotes(row)[0]);
            ask(answersOf(row)[0], "text");
            return;
        }
        String head = row.substring(0, row.indexOf(" =")).strip();
        String[] words = head.split(" ");
        List<int[]> all = mixtures(words);
        long[] answers = answersOf(row);
        if (answers.length != 1 && answers.length != all.size()) {
            throw new IllegalArgumentException(all.size() + " calls, " + answers.length + " answers: " + row);
        }
        for (int i = 0; i < all.size(); i++) {
            ask(answers[answers.length == 1 ? 0 : i], verb, all.get(i));
        }
    }

    // ---- rows

    private static String[] quotes(String row) {
        String[] cut = row.split("'", -1);
        String[] all = new String[cut.length / 2];
        for (int i = 0; i < all.length; i++) {
            all[i] = cut[2 * i + 1].replace("\\n", "\n");
        }
        return all;
    }

    private static long[] answersOf(String row) {
        String tail = row.substring(row.lastIndexOf(" = ") + 3);
        int note = tail.indexOf('#');
        String[] words = (note < 0 ? tail : tail.substring(0, note)).strip().split(" +");
        long[] all = new long[words.length];
        for (int i = 0; i < all.length; i++) {
            all[i] = words[i].equals("NO") ? CrierOfBorough.NO : number(words[i]);
        }
        return all;
    }

    private static int number(String word) {
        return word.equals("MIN") ? Integer.MIN_VALUE : word.equals("MAX") ? Integer.MAX_VALUE : Integer.parseInt(word);
    }

    private static List<Integer> numbers(String word) {
        List<Integer> all = new ArrayList<>();
        for (String piece : word.split(",")) {
            int range = piece.indexOf("..");
            int from = number(range < 0 ? piece : piece.substring(0, range));
            int to = range < 0 ? from : number(piece.substring(range + 2));
            all.add(from);
            for (int i = 1; i <= to - from && range >= 0; i++) {
                all.add(from + i);
            }
        }
        return all;
    }

    private static List<int[]> mixtures(String[] words) {
        List<int[]> all = new ArrayList<>();
        all.add(new int[0]);
        for (int i = 1; i < words.length; i++) {
            List<int[]> longer = new ArrayList<>();
            for (int[] row : all) {
                for (int v : numbers(words[i])) {
                    int[] more = Arrays.copyOf(row, row.length + 1);
                    more[row.length] = v;
                    longer.add(more);
                }
            }
            all = longer;
        }
        return all;
    }

    // ---- calls

    private static long answer(CrierOfBorough of, String name, int... arguments) {
        Class<?>[] types = new Class<?>[arguments.length];
        Object[] boxed = new Object[arguments.length];
        for (int i = 0; i < arguments.length; i++) {
            types[i] = int.class;
            boxed[i] = arguments[i];
        }
        try {
            Method m = CrierOfBorough.class.getMethod(name, types);
            if (Modifier.isStatic(m.getModifiers())) {
                throw new IllegalStateException(name);
            }
            return ((Number) m.invoke(of, boxed)).longValue();
        } catch (ReflectiveOperationException e) {
            throw new IllegalStateException(name + Arrays.toString(arguments), e);
        }
    }

    private long told(String name, int... arguments) {
        calls++;
        if (calls > MOST_CALLS) {
            throw new IllegalStateException("more calls than are promised: " + sentence);
        }
        long got = answer(x, name, arguments);
        if (isChange(name, got)) {
            changes.add(new Object[] {name, arguments});
        }
        return got;
    }

    private void ask(long want, String name, int... arguments) {
        asked++;
        long got = told(name, arguments);
        if (got != want) {
            tell(name + Arrays.toString(arguments) + " answered " + got + ", due is " + want);
        }
    }

    private void feed(String s) {
        for (int i = 0; i < s.length(); i += 5) {
            int n = Math.min(5, s.length() - i);
            int[] arguments = {n, 0, 0, 0, 0, 0};
            for (int k = 0; k < n; k++) {
                arguments[k + 1] = s.charAt(i + k);
            }
            told("feed", arguments);
        }
    }

    private void law(String s) {
        feed(s);
        int number = (int) told("text");
        if (number < 0 || told("force", number) < 0) {
            tell("no TEXT: " + s);
        }
    }

    private void row(String row) {
        String[] words = row.split(" ");
        String tail = row.substring(row.indexOf('=') + 1).strip();
        String[] values = tail.isEmpty() ? new String[0] : tail.split(" +");
        int s = number(words[1]);
        ask(1, "sheet", s, number(words[2]), values.length);
        for (int i = 0; i < values.length; i++) {
            ask(1, "cell", s, i, number(values[i]));
        }
    }

    private void fault(String before, String rest) {
        begin();
        feed(before + rest);
        ask(-100 - before.length(), "text");
        ask(0, "count", 5);
        ask(1, "count", 3);
    }

    /** An E in each of the three parts, where the others say 0: fine, if there is no rest. */
    private void eachPart(String before, String rest) {
        String[] keys = {"curious ", "dreads ", "goes "};
        for (int part = 0; part < keys.length; part++) {
            StringBuilder ahead = new StringBuilder();
            StringBuilder behind = new StringBuilder(";");
            for (int other = 0; other < keys.length; other++) {
                if (other != part) {
                    (other < part ? ahead : behind).append(keys[other]).append("0;");
                }
            }
            ahead.append(keys[part]).append(before);
            if (rest.isEmpty()) {
                begin();
                feed(ahead.toString() + behind);
                ask(1, "text");
            } else {
                fault(ahead.toString(), rest + behind);
            }
        }
    }

    /** A CITIZEN of MORE 7 AT 8, to whom 3 THINGS are WANTED and 5 KNOWN, at HOUR 36, of THING 2, that is 44 BAD. */
    private void saysOf() {
        begin();
        told("citizen", 7, 8, 0b1110);
        told("put", 0, 2, 0b11111);
        told("borough", 0, 36);
        told("borough", 5, 44);
    }

    private void says(String e, long want) {
        saysOf();
        law("curious 0;dreads 0;goes " + e + ";");
        ask(want, "asks", 2, 0, 2);
    }

    // ---- what changes nothing

    private static boolean isChange(String name, long got) {
        if (!CHANGES.contains(" " + name + " ")) {
            return false;
        }
        return got >= 0 || name.equals("text") && got <= -100 || name.equals("hour") && got == -1 || name.equals("peopleBy") && got == -12;
    }

    private static String look(CrierOfBorough of) {
        StringBuilder all = new StringBuilder();
        for (int i = 0; i < 14; i++) {
            all.append(answer(of, "crier", i)).append(i < 6 ? ", " + answer(of, "count", i) : "").append(' ');
        }
        for (int p = 0; p < 6; p++) {
            for (int what = 0; what < 9; what++) {
                all.append(answer(of, "told", p, what)).append(' ');
            }
        }
        for (int s = 0; s < 4; s++) {
            all.append(answer(of, "judge", s)).append(' ').append(answer(of, "cell", s, 0, 0)).append(' ');
        }
        all.append(answer(of, "back")).append(' ').append(answer(of, "count", 1)).append(' ').append(answer(of, "text"));
        return all.toString();
    }

    private void lookTwice() {
        if (calls == 0) {
            return;
        }
        if (calls + LOOKS > MOST_CALLS) {
            throw new IllegalStateException(calls + " calls leave none to look by: " + sentence);
        }
        CrierOfBorough twin = new CrierOfBorough();
        for (Object[] change : changes) {
            answer(twin, (String) change[0], (int[]) change[1]);
        }
        String seen = look(x);
        String due = look(twin);
        if (!seen.equals(due)) {
            tell("what was asked or refused changed something: " + seen + ", due is " + due);
        }
    }
}
