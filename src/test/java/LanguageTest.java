import java.io.IOException;
import java.lang.reflect.Constructor;
import java.lang.reflect.Field;
import java.lang.reflect.Method;
import java.lang.reflect.Modifier;
import java.nio.file.Files;
import java.nio.file.Path;
import java.util.Arrays;
import java.util.Set;
import java.util.TreeSet;
import java.util.regex.Pattern;

/** The public face of the document, and the rules of LANGUAGE.md that can be seen without running. */
public final class LanguageTest {
    private static final Path SOURCE = Path.of("src/main/java/PolyDesk.java");
    private static final String[] FACE = {
        "int constant(int, int)", "int symbol(int, int)", "int plus(int, int, int)",
        "int minus(int, int, int)", "int times(int, int, int)", "int put(int, int)", "int size(int)",
        "int term(int, int, int)", "int same(int, int)", "long value(int, int)", "int hypothesis(int)",
        "int keep(int)", "int part(int, int, int, int, int)", "int show(int, int)", "int count(int)"};

    private static final Set<Class<?>> CONSTANTS = Set.of(int.class, long.class, boolean.class, char.class,
            String.class, int[].class, long[].class, char[].class, byte[].class);

    private static int wrong = 0;

    private static void hold(boolean holds, String what) {
        if (!holds) {
            wrong++;
            System.out.println("does not hold: " + what);
        }
    }

    public static void main(String[] args) throws IOException {
        face();
        classesInside();
        words();
        System.out.println(wrong == 0 ? "all rules hold" : wrong + " rules do not hold");
        if (wrong != 0) {
            System.exit(1);
        }
    }

    private static void face() {
        Class<?> desk = PolyDesk.class;
        hold(Modifier.isPublic(desk.getModifiers()) && Modifier.isFinal(desk.getModifiers()), "public final class");
        Set<String> found = new TreeSet<>();
        Set<String> publicNames = new TreeSet<>();
        for (Method method : desk.getDeclaredMethods()) {
            if (Modifier.isPrivate(method.getModifiers())) {
                continue;
            }
            hold(Modifier.isPublic(method.getModifiers()) && !Modifier.isStatic(method.getModifiers()),
                    "public, of the object: " + method);
            String types = String.join(", ",
                    Arrays.stream(method.getParameterTypes()).map(Class::getName).toArray(String[]::new));
            found.add(method.getReturnType().getName() + " " + method.getName() + "(" + types + ")");
            publicNames.add(method.getName());
        }
        hold(found.equals(new TreeSet<>(Arrays.asList(FACE))), "the methods are those of the document: " + found);
        for (Method method : desk.getDeclaredMethods()) {
            hold(!Modifier.isPrivate(method.getModifiers()) || !publicNames.contains(method.getName()),
                    "no private method bears the name of a public one: " + method);
        }
        Constructor<?>[] constructors = desk.getDeclaredConstructors();
        hold(constructors.length == 1 && Modifier.isPublic(constructors[0].getModifiers())
                && constructors[0].getParameterCount() == 0, "one public constructor without parameters");
        for (Field field : desk.getDeclaredFields()) {
            boolean constant = field.getName().equals("NONE") || field.getName().equals("TOO_BIG");
            hold(constant ? Modifier.isPublic(field.getModifiers()) : Modifier.isPrivate(field.getModifiers()),
                    "public constants and private fields: " + field);
        }
        hold(PolyDesk.NONE == -1 && PolyDesk.TOO_BIG == -2, "the constants");
    }

    private static void classesInside() {
        Class<?>[] inside = PolyDesk.class.getDeclaredClasses();
        hold(inside.length <= 12, "at most some twelve classes");
        for (Class<?> one : inside) {
            hold(Modifier.isStatic(one.getModifiers()), "static: " + one);
            hold(!Modifier.isPublic(one.getModifiers()) && !Modifier.isProtected(one.getModifiers()),
                    "private or package-visible: " + one);
            sizes(one);
        }
        sizes(PolyDesk.class);
    }

    private static void sizes(Class<?> one) {
        for (Method method : one.getDeclaredMethods()) {
            hold(method.getParameterCount() <= 7, "at most seven parameters: " + method);
        }
        long fields = Arrays.stream(one.getDeclaredFields()).filter(f -> !Modifier.isStatic(f.getModifiers())).count();
        hold(fields <= 20, "some twenty fields: " + one);
        for (Field field : one.getDeclaredFields()) {
            boolean constant = Modifier.isFinal(field.getModifiers()) && CONSTANTS.contains(field.getType());
            hold(!Modifier.isStatic(field.getModifiers()) || constant, "a static field is a constant: " + field);
        }
    }

    /** A member begins and ends four or eight spaces in, by the way this file is written. */
    private static void methodsStayShort(String source) {
        String[] lines = source.split("\n");
        int begun = 0;
        for (int n = 0; n < lines.length; n++) {
            if (lines[n].matches(" {4}(?: {4})?(public|private) .*\\) \\{")) {
                begun = n;
            }
            if (lines[n].matches(" {4}(?: {4})?\\}")) {
                hold(n - begun <= 60, "methods stay short: " + lines[begun].trim());
            }
        }
    }

    private static void words() throws IOException {
        String source = Files.readString(SOURCE);
        String code = source.replaceAll("(?s)/\\*.*?\\*/", " ").replaceAll("//[^\n]*", " ");
        String[] banned = {"throw", "throws", "try", "catch", "synchronized", "assert", "package",
            "import (?!java\\.util\\.(ArrayList|List|Arrays|Iterator);)", "System\\.(?!arraycopy\\b)", "Thread",
            "hashCode", "->", "::", "\\w+Exact"};
        for (String word : banned) {
            String whole = word.matches("[a-zA-Z]+") ? "\\b" + word + "\\b" : word;
            hold(!Pattern.compile(whole).matcher(code).find(), "the source does without: " + word);
        }
        methodsStayShort(source);
        hold(source.chars().allMatch(c -> c < 128), "plain characters");
    }
}
