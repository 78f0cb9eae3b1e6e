import java.io.IOException;
import java.lang.reflect.Constructor;
import java.lang.reflect.Field;
import java.lang.reflect.Method;
import java.lang.reflect.Modifier;
import java.nio.file.Files;
import java.nio.file.Path;
import java.util.Arrays;
import java.util.Set;
import java.util.TreeSet;
import java.util.regex.Matcher;
import java.util.regex.Pattern;
import java.util.stream.Collectors;

/** The public face as the document has it, and those rules of LANGUAGE.md that can be seen from outside. */
public final class FaceTest {
    private static final String[] METHODS = {
        "int panel(int, int, int, int)", "int ofPlace(int, int)", "int wear(int, int)", "int kill(int, int)",
        "int jam(int, int)", "int burns(int, int)", "int digits(int, int)", "int bars(int)", "int alike(int)",
        "int which(int, int)", "int flips(int, int)", "int counting(int, int, int)", "int near(int, int)",
        "int pictures()", "int go(int)", "int dies(int, int)", "int first(int)",
        "int seen(int, int, int, int, int, int)", "int repair(int)", "int order(int, int, int, int, int)",
        "int reading(int, int, int)", "int back(int)", "int deads(int, int)", "int kinds(int)", "long odds(int)",
        "int sheet(int, int, int)", "int lose(int)", "int put(int, int, int)", "long cell(int, int, int)",
        "int copy(int, int, int, int, int)", "int tell(int)", "int hum(int)", "int as(int, int)", "int trace()",
        "int fault()", "int many(int)"};
    private static final String[] FIELDS = {
        "int UNKNOWN = -1", "int OUTSIDE = -2", "int STATE = -3", "int FULL = -4", "int NONE = -9",
        "long LOST = -9223372036854775808"};

    private static int wrong = 0;

    private static void must(boolean holds, String rule) {
        if (!holds) {
            wrong++;
            System.out.println("not so: " + rule);
        }
    }

    private static String face(Method m) {
        return m.getReturnType() + " " + m.getName() + "("
            + Arrays.stream(m.getParameterTypes()).map(Class::getName).collect(Collectors.joining(", ")) + ")";
    }

    private static void members() throws IllegalAccessException {
        Class<?> c = BarFigures.class;
        must(Modifier.isPublic(c.getModifiers()) && Modifier.isFinal(c.getModifiers()), "public final class");
        Set<String> methods = new TreeSet<>();
        for (Method m : c.getDeclaredMethods()) {
            if (!Modifier.isPrivate(m.getModifiers())) {
                methods.add(face(m));
                must(Modifier.isPublic(m.getModifiers()) && !Modifier.isStatic(m.getModifiers()), m + " is public");
            }
        }
        must(methods.equals(new TreeSet<>(Arrays.asList(METHODS))), "the methods are those of the document: " + methods);
        Set<String> fields = new TreeSet<>();
        for (Field f : c.getDeclaredFields()) {
            if (!Modifier.isPrivate(f.getModifiers())) {
                fields.add(f.getType() + " " + f.getName() + " = " + f.get(null));
            }
        }
        must(fields.equals(new TreeSet<>(Arrays.asList(FIELDS))), "the constants are those of the document: " + fields);
        Constructor<?>[] made = c.getDeclaredConstructors();
        must(made.length == 1 && Modifier.isPublic(made[0].getModifiers()) && made[0].getParameterCount() == 0,
            "one public constructor without parameters");
    }

    private static void classesInside() {
        Set<String> names = new TreeSet<>();
        for (String m : METHODS) {
            names.add(m.substring(m.indexOf(' ') + 1, m.indexOf('(')));
        }
        checkMethods(BarFigures.class, names);
        must(BarFigures.class.getDeclaredClasses().length < 12, "at most some twelve classes");
        for (Class<?> inside : BarFigures.class.getDeclaredClasses()) {
            must(Modifier.isStatic(inside.getModifiers()), inside + " is static");
            must(inside.getDeclaredFields().length <= 20, inside + " has some twenty fields");
            checkMethods(inside, names);
        }
    }

    private static void checkMethods(Class<?> c, Set<String> names) {
        for (Method m : c.getDeclaredMethods()) {
            must(m.getParameterCount() <= 7, m + " has at most seven parameters");
            must(Modifier.isPublic(m.getModifiers()) || !names.contains(m.getName()), m + " bears the name of a public one");
        }
        for (Field f : c.getDeclaredFields()) {
            must(!Modifier.isStatic(f.getModifiers()) || Modifier.isFinal(f.getModifiers()), f + " is final");
        }
    }

    private static void source() throws IOException {
        String text = Files.readString(Path.of("src/main/java/BarFigures.java"));
        must(text.chars().allMatch(c -> c < 128), "plain signs alone");
        String code = text.replaceAll("(?s)/\\*.*?\\*/", " ").replaceAll("//[^\n]*", " ");
        Matcher banned = Pattern.compile("\\b(throw|throws|try|catch|finally|synchronized|assert|import|package|while|do"
            + "|native|hashCode|toString|double|float|Random|nanoTime|currentTimeMillis|\\w+Exact)\\b|->|::|@").matcher(code);
        while (banned.find()) {
            must(false, "the source does without " + banned.group());
        }
        String[] lines = code.split("\n");
        int begun = 0;
        for (int i = 0; i < lines.length; i++) {
            if (lines[i].matches(" {4,8}(public|private) .*\\) \\{\\s*")) {
                begun = i;
            }
            if (lines[i].matches(" {4,8}\\}\\s*")) {
                must(i - begun <= 60 || lines[begun].isBlank(), "a method of at most sixty lines at line " + (begun + 1));
                begun = i;
            }
        }
    }

    public static void main(String[] args) throws Exception {
        members();
        classesInside();
        source();
        System.out.println(wrong == 0 ? "the face is as due" : wrong + " rules are not kept");
        if (wrong != 0) {
            System.exit(1);
        }
    }
}
