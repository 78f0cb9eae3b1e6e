import java.io.IOException;
import java.lang.reflect.Method;
import java.lang.reflect.Modifier;
import java.nio.file.Files;
import java.nio.file.Path;
import java.util.ArrayList;
import java.util.Comparator;
import java.util.List;
import java.util.Set;
import java.util.TreeSet;
import java.util.regex.Matcher;
import java.util.regex.Pattern;
import java.util.stream.Stream;
import javax.tools.JavaCompiler;
import javax.tools.ToolProvider;

/**
 * What README.md says of using the class is so: its code is taken from the page, compiled and run, and each call
 * must answer what the remark behind it begins with (a number, or a constant of the class).
 */
public final class ReadmeTest {
    private static final Pattern BLOCK = Pattern.compile("```java\n(.*?)```", Pattern.DOTALL);
    private static final Pattern CALL = Pattern.compile("(figures|new BarFigures\\(\\))\\.(\\w+)\\(.*\\)(?=;)");
    private static final Pattern SHOWN = Pattern.compile("\\s*(" + CALL.pattern() + ");\\s*// (-?\\d+|[A-Z]+)\\b.*");

    private static int wrong = 0;
    private static int checked = 0;

    /** Called by the code that is made of the page. */
    public static void due(String call, long got, long want) {
        checked++;
        if (got != want) {
            fail(call + " answers " + got + ", README.md says " + want);
        }
    }

    private static void fail(String what) {
        wrong++;
        System.out.println(what);
    }

    private static List<String> codeLines() throws IOException {
        List<String> lines = new ArrayList<>();
        Matcher block = BLOCK.matcher(Files.readString(Path.of("README.md")));
        while (block.find()) {
            lines.addAll(block.group(1).lines().toList());
        }
        return lines;
    }

    /** The line as a check; a call behind which no answer is told is a fault of the page. */
    private static String asCheck(String line, Set<String> names) {
        Matcher shown = SHOWN.matcher(line);
        if (shown.matches()) {
            String call = shown.group(1);
            String told = shown.group(4);
            names.add(shown.group(3));
            String want = Character.isUpperCase(told.charAt(0)) ? "BarFigures." + told : told;
            return "ReadmeTest.due(\"" + call + "\", " + call + ", " + want + ");";
        }
        if (CALL.matcher(line).find()) {
            fail("README.md tells no answer of: " + line.strip());
        }
        return line;
    }

    private static void everyMethodIsShown(Set<String> names) {
        for (Method m : BarFigures.class.getDeclaredMethods()) {
            if (Modifier.isPublic(m.getModifiers()) && !names.contains(m.getName())) {
                fail("README.md does not show " + m.getName());
            }
        }
    }

    private static void run(String body) throws Exception {
        Path made = Files.createTempDirectory("readme");
        try {
            Path source = made.resolve("OfReadme.java");
            Files.writeString(source, "public class OfReadme {\n public static void run() {\n" + body + " }\n}\n");
            JavaCompiler compiler = ToolProvider.getSystemJavaCompiler();
            String path = System.getProperty("java.class.path");
            if (compiler == null || compiler.run(null, null, null, "-cp", path, "-d", made.toString(), source.toString()) != 0) {
                fail("the code of README.md can not be compiled");
                return;
            }
            try (java.net.URLClassLoader loader = new java.net.URLClassLoader(new java.net.URL[] {made.toUri().toURL()})) {
                loader.loadClass("OfReadme").getMethod("run").invoke(null);
            }
        } finally {
            remove(made);
        }
    }

    private static void remove(Path made) throws IOException {
        try (Stream<Path> all = Files.walk(made)) {
            for (Path p : all.sorted(Comparator.reverseOrder()).toList()) {
                Files.delete(p);
            }
        }
    }

    public static void main(String[] args) throws Exception {
        Set<String> names = new TreeSet<>();
        StringBuilder body = new StringBuilder();
        for (String line : codeLines()) {
            body.append(asCheck(line, names)).append('\n');
        }
        everyMethodIsShown(names);
        run(body.toString());
        System.out.println(checked + " calls of README.md: " + (wrong == 0 ? "all answer as it says" : wrong + " faults"));
        if (wrong != 0 || checked == 0) {
            System.exit(1);
        }
    }
}
