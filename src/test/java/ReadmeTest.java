import java.io.IOException;
import java.lang.reflect.Method;
import java.lang.reflect.Modifier;
import java.net.URL;
import java.net.URLClassLoader;
import java.nio.file.DirectoryStream;
import java.nio.file.Files;
import java.nio.file.Path;
import java.util.ArrayList;
import java.util.List;
import java.util.TreeSet;
import java.util.regex.Matcher;
import java.util.regex.Pattern;
import javax.tools.JavaCompiler;
import javax.tools.ToolProvider;

/** README.md: its code is compiled and run as it stands, and each call answers what is told behind it. */
public final class ReadmeTest {
    private static final Pattern BLOCK = Pattern.compile("(?s)```java\n(.*?)```");
    private static final Pattern SHOWN = Pattern.compile("(x\\.(\\w+)\\([^\"]*?\\)); +// (-?\\d+): .+");
    private static final Pattern WITHOUT_ANSWER = Pattern.compile("SweptSnow x = new SweptSnow\\(\\);|tell\\(x, \".*\"\\);");

    private static final TreeSet<String> METHODS = new TreeSet<>();
    private static int asked;
    private static int wrong;

    public static void main(String[] args) throws Exception {
        String page = Files.readString(Path.of("README.md"));
        run(program(page));
        for (Method method : SweptSnow.class.getDeclaredMethods()) {
            boolean open = Modifier.isPublic(method.getModifiers());
            expect(!open || METHODS.contains(method.getName()), "does not show " + method.getName());
        }
        namesTests(page);
        System.out.println("ReadmeTest: " + asked + " answers, " + wrong + " wrong");
        if (wrong != 0) {
            System.exit(1);
        }
    }

    /** Called by the code of the page. */
    public static void due(String call, int got, int want) {
        asked++;
        expect(got == want, "says that " + call + " answers " + want + ", it answered " + got);
    }

    private static void expect(boolean right, String what) {
        if (!right) {
            wrong++;
            System.out.println("README.md " + what);
        }
    }

    /** Methods of the page, and all else of it in one method; an answer that is told becomes one that is due. */
    private static String program(String page) {
        StringBuilder methods = new StringBuilder();
        StringBuilder lines = new StringBuilder();
        Matcher block = BLOCK.matcher(page);
        while (block.find()) {
            if (block.group(1).startsWith("static ")) {
                methods.append(block.group(1));
                continue;
            }
            for (String line : block.group(1).split("\n")) {
                lines.append(checked(line)).append('\n');
            }
        }
        return "public final class Shown {\n" + methods + "public static void all() {\n" + lines + "}\n}\n";
    }

    private static String checked(String line) {
        Matcher shown = SHOWN.matcher(line);
        if (!shown.matches()) {
            expect(WITHOUT_ANSWER.matcher(line).matches(), "tells no answer in: " + line);
            return line;
        }
        METHODS.add(shown.group(2));
        return "ReadmeTest.due(\"" + shown.group(1) + "\", " + shown.group(1) + ", " + shown.group(3) + ");";
    }

    private static void run(String program) throws Exception {
        JavaCompiler compiler = ToolProvider.getSystemJavaCompiler();
        if (compiler == null) {
            expect(false, "can't be compiled: this java has no javac");
            return;
        }
        Path folder = Files.createTempDirectory("readme");
        try {
            Path file = Files.writeString(folder.resolve("Shown.java"), program);
            String path = System.getProperty("java.class.path");
            int ended = compiler.run(null, null, null, "-cp", path, "-d", folder.toString(), file.toString());
            expect(ended == 0, "shows code that does not compile");
            if (ended == 0) {
                try (URLClassLoader loader = new URLClassLoader(new URL[] {folder.toUri().toURL()})) {
                    loader.loadClass("Shown").getMethod("all").invoke(null);
                }
            }
        } finally {
            remove(folder);
        }
    }

    private static void namesTests(String page) throws IOException {
        try (DirectoryStream<Path> tests = Files.newDirectoryStream(Path.of("src/test/java"), "*Test.java")) {
            for (Path test : tests) {
                String name = test.getFileName().toString().replace(".java", "");
                expect(page.contains("`" + name + "`"), "does not tell of " + name);
            }
        }
    }

    private static void remove(Path folder) throws IOException {
        List<Path> all = new ArrayList<>();
        try (DirectoryStream<Path> files = Files.newDirectoryStream(folder)) {
            files.forEach(all::add);
        }
        all.add(folder);
        for (Path path : all) {
            Files.delete(path);
        }
    }
}
