import java.lang.reflect.Constructor;
import java.lang.reflect.Field;
import java.lang.reflect.Method;
import java.lang.reflect.Modifier;
import java.nio.file.Files;
import java.nio.file.Path;
import java.util.ArrayList;
import java.util.List;
import java.util.Set;
import java.util.TreeMap;
import java.util.TreeSet;
import java.util.regex.Matcher;
import java.util.regex.Pattern;

/** The face, and those rules of LANGUAGE.md that can be seen from the file or the compiled class. */
public final class LanguageTest {
    private static final String FACE = "feed5 end1 valley0 rule0 force1 step2 house2 day0 sweep2 toss2 pull1 thaw0 undo0 "
        + "ahead3 stays1 closes1 ring1 spare3 figure2 way3 pacts2 thrownOn3 best3 might2 note3 ruled1 look2 seed1 storms4 "
        + "count1 image1 back1";
    private static int wrong;

    public static void main(String[] args) throws Exception {
        String source = Files.readString(Path.of("src/main/java/SweptSnow.java"));
        String code = source.replaceAll("(?s)/\\*.*?\\*/", "").replaceAll("//[^\n]*", "");
        face();
        words(code);
        classes(code);
        methods(code);
        loops(code);
        System.out.println("LanguageTest: " + wrong + " wrong");
        if (wrong != 0) {
            System.exit(1);
        }
    }

    private static void expect(boolean right, String what) {
        if (!right) {
            wrong++;
            System.out.println("LANGUAGE: " + what);
        }
    }

    private static void face() {
        Class<?> c = SweptSnow.class;
        expect(Modifier.isPublic(c.getModifiers()) && Modifier.isFinal(c.getModifiers()), "1: public and final");
        TreeSet<String> open = new TreeSet<>();
        for (Method m : c.getDeclaredMethods()) {
            if (Modifier.isPublic(m.getModifiers())) {
                open.add(m.getName() + m.getParameterCount());
                expect(m.getReturnType() == int.class, "1: answers an int: " + m);
                for (Class<?> type : m.getParameterTypes()) {
                    expect(type == int.class, "1: takes ints: " + m);
                }
            } else {
                expect(Modifier.isPrivate(m.getModifiers()), "1: private: " + m);
            }
        }
        expect(open.equals(new TreeSet<>(Set.of(FACE.split(" ")))), "1: the face is " + open);
        for (Constructor<?> k : c.getDeclaredConstructors()) {
            expect(Modifier.isPublic(k.getModifiers()) && k.getParameterCount() == 0, "1: one constructor: " + k);
        }
        for (Field f : c.getDeclaredFields()) {
            expect(Modifier.isPrivate(f.getModifiers()) || f.getName().equals("NONE"), "1: private: " + f);
        }
    }

    private static void words(String code) {
        String[] banned = {"throw", "throws", "try", "catch", "finally", "synchronized", "assert", "import", "package",
            "protected", "transient", "volatile", "native", "goto", "Object", "hashCode", "toString",
            "Thread", "nanoTime", "currentTimeMillis", "random", "var", "yield"};
        for (String word : banned) {
            expect(!Pattern.compile("\\b" + word + "\\b").matcher(code).find(), "has the word " + word);
        }
        expect(!code.contains("->"), "2: a lambda");
        expect(!code.contains("::"), "2: a method reference");
        Matcher library = Pattern.compile("\\b(System|Math|Integer|Long|Arrays)\\.(\\w+)").matcher(code);
        Set<String> known = Set.of("System.arraycopy", "Math.min", "Math.max", "Integer.bitCount");
        while (library.find()) {
            expect(known.contains(library.group()), "4: " + library.group());
        }
        for (char sign : code.toCharArray()) {
            expect(sign < 128, "4: a sign above 127");
        }
    }

    private static void classes(String code) throws Exception {
        List<Class<?>> all = new ArrayList<>(List.of(SweptSnow.class.getDeclaredClasses()));
        all.add(SweptSnow.class);
        expect(all.size() <= 12, "11: classes: " + all.size());
        TreeSet<String> face = new TreeSet<>();
        for (Method m : SweptSnow.class.getMethods()) {
            face.add(m.getName());
        }
        for (Class<?> c : all) {
            int fields = 0;
            for (Field f : c.getDeclaredFields()) {
                boolean isStatic = Modifier.isStatic(f.getModifiers());
                fields += isStatic ? 0 : 1;
                boolean plain = f.getType().isPrimitive() || f.getType() == String.class || f.getType().isArray();
                expect(!isStatic || Modifier.isFinal(f.getModifiers()) && plain, "5: " + f);
            }
            expect(fields <= 20, "11: fields of " + c + ": " + fields);
            expect(c == SweptSnow.class || Modifier.isStatic(c.getModifiers()), "2: static: " + c);
            expect(c.getDeclaredClasses().length == 0 || c == SweptSnow.class, "2: deeper classes: " + c);
            for (Method m : c.getDeclaredMethods()) {
                expect(m.getParameterCount() <= 7, "11: parameters: " + m);
                expect(c == SweptSnow.class || !face.contains(m.getName()), "1: a name of the face: " + m);
            }
        }
    }

    /** Methods by their first line, as all in this file are written: name(..) { at a class's depth. */
    private static void methods(String code) {
        Pattern first = Pattern.compile("^(    |        )(?!    )[^=;]*\\b(\\w+)\\([^;]*\\) \\{$");
        String[] lines = code.split("\n");
        TreeMap<String, TreeSet<String>> calls = new TreeMap<>();
        for (int i = 0; i < lines.length; i++) {
            Matcher m = first.matcher(lines[i]);
            if (!m.find() || m.group(2).matches("if|for|while|switch")) {
                continue;
            }
            int end = i;
            while (!lines[end].equals(m.group(1) + "}")) {
                end++;
            }
            expect(end - i < 60, "11: lines of " + m.group(2) + ": " + (end - i + 1));
            TreeSet<String> called = calls.computeIfAbsent(m.group(2), name -> new TreeSet<>());
            for (int j = i + 1; j < end; j++) {
                Matcher call = Pattern.compile("(\\w+)\\(").matcher(lines[j]);
                while (call.find()) {
                    called.add(call.group(1));
                }
            }
        }
        for (String name : calls.keySet()) {
            int depth = depth(name, calls, new ArrayList<>());
            expect(depth <= 8, "11: " + name + " goes " + depth + " deep");
        }
    }

    /** Methods of one name count as one, and what stands open already counts no more: it is recursion. */
    private static int depth(String name, TreeMap<String, TreeSet<String>> calls, List<String> open) {
        if (!calls.containsKey(name) || open.contains(name)) {
            return 0;
        }
        open.add(name);
        int most = 0;
        for (String next : calls.get(name)) {
            most = Math.max(most, depth(next, calls, open));
        }
        open.remove(open.size() - 1);
        // Of a bracket within a bracket: it is recursion, and counts once, as the outer one did.
        return most + (name.equals("readWithin") ? 0 : 1);
    }

    private static void loops(String code) {
        expect(!Pattern.compile("while \\((true|1)|for \\(;").matcher(code).find(), "9: a loop without an end");
        Matcher loop = Pattern.compile("\\b(for|while) \\((.*)\\) \\{").matcher(code);
        while (loop.find()) {
            expect(loop.group(2).contains("<") || loop.group(2).contains(">"), "9: " + loop.group());
        }
    }
}
