import java.lang.management.ManagementFactory;
import java.lang.reflect.Constructor;
import java.lang.reflect.Field;
import java.lang.reflect.Method;
import java.lang.reflect.Modifier;
import java.nio.file.Files;
import java.nio.file.Path;
import java.util.ArrayList;
import java.util.Arrays;
import java.util.Collections;
import java.util.List;
import java.util.regex.Matcher;
import java.util.regex.Pattern;

/** The document's face and no more; what of LANGUAGE.md a look at the source tells; that calls make no objects. */
public final class RulesTest {
    private static final String[] FACE = {"int count 1", "int borough 2", "int crier 1", "int feed 6", "int text 0", "int force 1", "int asks 3",
        "int citizen 3", "int put 3", "int told 2", "int ring 2", "int hour 0", "int run 2", "int when 1", "int where 1", "int begin 2",
        "int windows 2", "int hush 3", "int round 1", "long mean 1", "int judge 1", "int kinds 3", "int corners 2", "int turned 3", "int evils 3",
        "int laws 1", "int film 2", "int drawn 2", "long odds 4", "int image 0", "int back 0", "int sheet 3", "int cell 3", "int copy 5",
        "int peopleBy 4", "int taken 2"};
    private static final String[] RULED_OUT = {"\\bthrow\\b", "\\btry\\b", "\\bcatch\\b", "\\bsynchronized\\b", "\\bassert\\b", "->", "::",
        "\\bprotected\\b", "\"[^\"\\n]*\" \\+", "\\+ \"", "\\bhashCode\\b", "\\btoString\\b", "\\bMap\\b", "\\bSet\\b", "Exact\\b", "\\bSystem\\.(?!arraycopy)",
        "^package", "@\\w", "\\bObject\\b", "\\bvar\\b", "\\byield\\b", "while \\(true\\)", "for \\(;;\\)"};
    private static int wrong;

    private static void rule(boolean holds, String what) {
        if (!holds) {
            wrong++;
            System.out.println("RulesTest: " + what);
        }
    }

    private static void face() {
        Class<?> c = CrierOfBorough.class;
        List<String> got = new ArrayList<>();
        List<String> publics = new ArrayList<>();
        for (Method m : c.getDeclaredMethods()) {
            if (Modifier.isPublic(m.getModifiers())) {
                got.add(m.getReturnType() + " " + m.getName() + " " + m.getParameterCount());
                publics.add(m.getName());
                rule(Arrays.stream(m.getParameterTypes()).allMatch(t -> t == int.class), m + " takes ints");
                rule(!Modifier.isStatic(m.getModifiers()), m + " is no static one");
            }
        }
        List<String> want = new ArrayList<>(List.of(FACE));
        Collections.sort(got);
        Collections.sort(want);
        rule(got.equals(want), "the methods are " + got);
        rule(Modifier.isPublic(c.getModifiers()) && Modifier.isFinal(c.getModifiers()), "public and final");
        Constructor<?>[] made = c.getDeclaredConstructors();
        rule(made.length == 1 && Modifier.isPublic(made[0].getModifiers()) && made[0].getParameterCount() == 0, "one public constructor");
        for (Method m : c.getDeclaredMethods()) {
            boolean isPrivate = Modifier.isPrivate(m.getModifiers());
            rule(isPrivate || Modifier.isPublic(m.getModifiers()), m + " is private");
            rule(!isPrivate || !publics.contains(m.getName()), m + " bears the name of a public one");
        }
        List<String> constants = new ArrayList<>();
        for (Field f : c.getDeclaredFields()) {
            if (Modifier.isPublic(f.getModifiers())) {
                constants.add(f.getType() + " " + f.getName());
            }
            rule(Modifier.isPublic(f.getModifiers()) || Modifier.isPrivate(f.getModifiers()), f + " is private");
            rule(!Modifier.isStatic(f.getModifiers()) || Modifier.isFinal(f.getModifiers()), f + " is final");
        }
        Collections.sort(constants);
        rule(constants.equals(List.of("int BAD", "int FULL", "int NONE", "int STATE", "long NO")), "the constants are " + constants);
        rule(CrierOfBorough.NONE == -1, "NONE is -1");
        rule(CrierOfBorough.BAD == -2, "BAD is -2");
        rule(CrierOfBorough.STATE == -3, "STATE is -3");
        rule(CrierOfBorough.FULL == -4, "FULL is -4");
        rule(CrierOfBorough.NO == -4611686018427387904L, "NO is -4611686018427387904");
        inside(c);
    }

    /** The interface of DOC.md line by line: names, parameters, what is returned, the constants' values. */
    private static void interfaceOfDocument() throws Exception {
        String document = Files.readString(Path.of("..", "shared", "DOC.md"));
        String source = Files.readString(Path.of("src/main/java/CrierOfBorough.java"));
        int start = document.indexOf("```java") + 7;
        String face = document.substring(start, document.indexOf("```", start));
        int many = 0;
        for (String line : face.split("\n")) {
            String bare = line.strip();
            if (!bare.startsWith("public")) {
                continue;
            }
            many++;
            boolean isMethod = bare.endsWith(");");
            String want = isMethod ? bare.substring(0, bare.length() - 1) + " {" : bare;
            rule(source.contains("\n" + (many == 1 ? "" : "    ") + want + "\n"), "the source has " + want);
        }
        rule(many == 4 + FACE.length, many + " lines of the face");
    }

    private static void inside(Class<?> c) {
        rule(c.getDeclaredClasses().length <= 11, "some twelve classes at most");
        for (Class<?> inside : c.getDeclaredClasses()) {
            rule(Modifier.isStatic(inside.getModifiers()) && Modifier.isPrivate(inside.getModifiers()), inside + " is private and static");
            int fields = 0;
            for (Field f : inside.getDeclaredFields()) {
                fields += Modifier.isStatic(f.getModifiers()) ? 0 : 1;
            }
            rule(fields <= 20, inside + " has " + fields + " fields");
        }
    }

    private static void source() throws Exception {
        String s = Files.readString(Path.of("src/main/java/CrierOfBorough.java"));
        rule(s.chars().allMatch(c -> c == 10 || c >= 32 && c < 127), "signs of the source");
        String bare = Pattern.compile("/\\*.*?\\*/|//[^\\n]*", Pattern.DOTALL).matcher(s).replaceAll("");
        for (String out : RULED_OUT) {
            Matcher m = Pattern.compile(out, Pattern.MULTILINE).matcher(bare);
            rule(!m.find(), "ruled out: " + out);
        }
        Matcher imports = Pattern.compile("^import (.*);", Pattern.MULTILINE).matcher(bare);
        while (imports.find()) {
            rule(imports.group(1).equals("java.util.Arrays"), "imports " + imports.group(1));
        }
        methods(bare);
    }

    private static void methods(String bare) {
        Matcher m = Pattern.compile("^( +)[^\\n=;{}]*\\w\\(([^)\\n]*)\\) \\{$", Pattern.MULTILINE).matcher(bare);
        while (m.find()) {
            int end = bare.indexOf("\n" + m.group(1) + "}", m.start());
            long lines = bare.substring(m.start(), end).lines().count();
            rule(lines <= 60, lines + " lines: " + m.group().trim());
            rule(m.group(2).split(",").length <= 7, "parameters: " + m.group().trim());
        }
    }

    private static CrierOfBorough full() {
        CrierOfBorough x = new CrierOfBorough();
        for (int p = 0; p < 6; p++) {
            x.citizen(10 * p + p, p % 3, 1023 - p);
        }
        Due.law(x, "curious 50-hour*(known+1);dreads bad+(wanted<3)*more;goes corner-known;");
        return x;
    }

    private static long dearest(CrierOfBorough x) {
        long sum = 0;
        x.film(0, 20);
        sum += x.evils(0, 3, 0) + x.odds(5, 40, 5, 0) + x.kinds(0, 1, 1) + x.corners(0, 2) + x.turned(0, 1, 2) + x.laws(0);
        sum += x.windows(40, 0) + x.begin(40, 0) + x.when(10) + x.run(40, 2) + x.round(0) + x.hush(1, 3, 0) + x.where(0);
        sum += x.ring(0, 3) + x.told(3, 6) + x.asks(0, 1, 1) + x.mean(0) + x.image() + x.hour() + x.back() + x.drawn(7, 1);
        sum += x.sheet(1, 2, 40) + x.copy(1, 0, 1, 3, 20) + x.peopleBy(1, 2, 0, 6) + x.taken(3, 2) + x.cell(1, 2, 3) + x.judge(0);
        Due.feedAll(x, "curious 1");
        return sum + x.text();
    }

    private static void room() {
        com.sun.management.ThreadMXBean bean = (com.sun.management.ThreadMXBean) ManagementFactory.getThreadMXBean();
        CrierOfBorough[] all = {full(), full(), full(), full()};
        dearest(full());
        long id = Thread.currentThread().getId();
        long before = bean.getThreadAllocatedBytes(id);
        for (int i = 0; i < 40; i++) {
            dearest(all[i % all.length]);
        }
        long made = bean.getThreadAllocatedBytes(id) - before;
        rule(made < 20000, "calls made " + made + " bytes");
        before = bean.getThreadAllocatedBytes(id);
        new CrierOfBorough();
        made = bean.getThreadAllocatedBytes(id) - before;
        rule(made < 40000, "a new object makes " + made + " bytes");
    }

    public static void main(String[] args) throws Exception {
        face();
        interfaceOfDocument();
        source();
        room();
        System.out.println("RulesTest: " + wrong + " rules broken");
        if (wrong != 0) {
            System.exit(1);
        }
    }
}
