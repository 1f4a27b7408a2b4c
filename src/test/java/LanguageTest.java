import java.lang.reflect.Field;
import java.lang.reflect.Method;
import java.lang.reflect.Modifier;
import java.nio.file.Files;
import java.nio.file.Path;
import java.util.Arrays;
import java.util.Set;
import java.util.TreeSet;
import java.util.regex.Matcher;
import java.util.regex.Pattern;

/** The face of the class, and those rules of LANGUAGE.md that can be seen in the text. Run from the project's root. */
public final class LanguageTest {
    private static final String[] FORBIDDEN = {"\\bthrow\\b", "\\bthrows\\b", "\\btry\\b", "\\bcatch\\b", "\\bsynchronized\\b", "\\bassert\\b",
        "^(?!\\s*(case|default)\\b).*->", "::", "Exact\\b", "\\bBig(Integer|Decimal)\\b", "\\bSystem\\.(?!arraycopy\\b)", "\\bstatic\\s*\\{", "\\bprotected\\b",
        "\\bObject\\b", "\\bhashCode\\b", "\\bArrays\\.(?!copyOf\\b|copyOfRange\\b|fill\\b)", "\\bMath\\.(random|sqrt|pow|log|exp)",
        "\\[\\]\\[\\]\\[\\]", "\\b(Thread|Random|Runtime|Class)\\b"};
    // Constants, texts and rows of numbers are all that may stand in a static field, beside those of an enum.
    private static final Set<Class<?>> STATIC = Set.of(int.class, long.class, boolean.class, char.class, String.class, int[].class, long[].class, char[].class, byte[].class);
    private static int wrong = 0;

    public static void main(String[] args) throws Exception {
        checkFace(Files.readString(Path.of(System.getProperty("shared", "../shared"), "DOC.md")));
        checkClasses();
        checkText(Files.readString(Path.of("src/main/java/TailBounds.java")));
        System.out.println(wrong == 0 ? "language: all as due" : "language: " + wrong + " not as due");
        if (wrong != 0) {
            System.exit(1);
        }
    }

    private static void due(boolean holds, String what) {
        if (!holds) {
            wrong++;
            System.out.println(what);
        }
    }

    private static void checkFace(String document) throws Exception {
        Class<?> c = TailBounds.class;
        due(Modifier.isPublic(c.getModifiers()) && Modifier.isFinal(c.getModifiers()), "the class is not public and final");
        due(c.getDeclaredConstructors().length == 1 && c.getConstructors().length == 1, "not just the one constructor");
        String face = document.replaceAll("(?s).*## The public face|## Terms.*", "");
        Set<String> open = new TreeSet<>();
        Set<String> names = new TreeSet<>();
        for (Method m : c.getDeclaredMethods()) {
            if (!Modifier.isPrivate(m.getModifiers())) {
                String kinds = Arrays.toString(m.getParameterTypes()).replaceAll("[\\[\\] ]", "");
                open.add(Modifier.toString(m.getModifiers()) + " " + m.getReturnType() + " " + m.getName() + "(" + kinds + ")");
                names.add(m.getName());
            }
        }
        due(open.equals(methodsTold(face)), "the open methods are " + open + ", due are " + methodsTold(face));
        Set<String> constants = new TreeSet<>();
        for (Field f : c.getDeclaredFields()) {
            if (!Modifier.isPrivate(f.getModifiers())) {
                constants.add(Modifier.toString(f.getModifiers()) + " " + f.getType() + " " + f.getName() + " = " + f.getInt(null));
            }
        }
        due(constants.equals(constantsTold(face)), "the open constants are " + constants + ", due are " + constantsTold(face));
        checkNames(c, names);
        for (Class<?> inner : c.getDeclaredClasses()) {
            checkNames(inner, names);
        }
    }

    private static Set<String> methodsTold(String face) {
        Set<String> told = new TreeSet<>();
        Matcher row = Pattern.compile("(public (?:int|long) \\w+)\\(([^)]*)\\);").matcher(face);
        while (row.find()) {
            told.add(row.group(1) + "(" + row.group(2).replaceAll(" \\w+(,) | \\w+$", "$1") + ")");
        }
        due(told.size() == 26, "the document's face was not understood");
        return told;
    }

    private static Set<String> constantsTold(String face) {
        Set<String> told = new TreeSet<>();
        Matcher row = Pattern.compile("public static final int ([^;]*);").matcher(face);
        while (row.find()) {
            for (String constant : row.group(1).split(", ")) {
                told.add("public static final int " + constant);
            }
        }
        due(told.size() == 5, "the document's constants were not understood");
        return told;
    }

    private static void checkNames(Class<?> c, Set<String> open) {
        for (Method m : c.getDeclaredMethods()) {
            due(!Modifier.isPrivate(m.getModifiers()) || !open.contains(m.getName()), c + " has a private method with an open name: " + m.getName());
        }
    }

    private static void checkClasses() {
        Class<?>[] inner = TailBounds.class.getDeclaredClasses();
        due(inner.length <= 12, "too many classes");
        for (Class<?> c : inner) {
            due(Modifier.isStatic(c.getModifiers()) && !Modifier.isPublic(c.getModifiers()), c + " is not static, or open");
            checkMembers(c);
        }
        checkMembers(TailBounds.class);
    }

    private static void checkMembers(Class<?> c) {
        int own = 0;
        for (Field f : c.getDeclaredFields()) {
            boolean isStatic = Modifier.isStatic(f.getModifiers());
            own += isStatic ? 0 : 1;
            boolean isConstant = Modifier.isFinal(f.getModifiers()) && (STATIC.contains(f.getType()) || c.isEnum());
            due(!isStatic || isConstant, c + " has static state: " + f.getName());
        }
        due(own <= 20, c + " has too many fields");
        for (Method m : c.getDeclaredMethods()) {
            due(m.getParameterCount() <= 7, m + " takes too much");
        }
    }

    private static void checkText(String text) {
        String code = text.replaceAll("(?s)/\\*.*?\\*/", "").replaceAll("//[^\n]*", "");
        for (String word : FORBIDDEN) {
            Matcher found = Pattern.compile(word, Pattern.MULTILINE).matcher(code);
            due(!found.find(), "forbidden: " + word);
        }
        for (String row : code.split("\n")) {
            due(!row.startsWith("import ") || row.matches("import java\\.util\\.(Arrays|ArrayList|List|Iterator);"), "forbidden: " + row);
            due(!row.startsWith("package"), "a package");
        }
        due(text.chars().allMatch(ch -> ch < 256), "a character beyond 255");
        int since = 0;
        String[] rows = text.split("\n");
        for (int i = 0; i < rows.length; i++) {
            if (rows[i].matches(" {4,8}[a-zA-Z].*\\) \\{")) {
                since = i;
            }
            due(!rows[i].matches(" {4,8}}") || i - since <= 60, "a method ends too late, row " + (i + 1));
        }
    }
}
