import java.io.IOException;
import java.net.URL;
import java.net.URLClassLoader;
import java.nio.file.Files;
import java.nio.file.Path;
import java.util.ArrayList;
import java.util.Comparator;
import java.util.List;
import java.util.Set;
import java.util.TreeSet;
import java.util.regex.Matcher;
import java.util.regex.Pattern;
import java.util.stream.Collectors;
import java.util.stream.Stream;
import javax.tools.JavaCompiler;
import javax.tools.ToolProvider;

/**
 * What README.md says of the class's use holds when it is run, and its way to run the tests is that of .ci/run.
 * Run from the project's root. A row of a java block is a call with its answer behind it, "// 1: PLACE 0 holds 7 / 128".
 */
public final class ReadmeTest {
    private static final String FIRST_ROW = "TailBounds x = new TailBounds();";
    private static final Pattern CALL = Pattern.compile("(?:(?:int|long) (\\w+) = )?(x\\.(\\w+)\\([^;]*\\));\\s+// (-?\\d+|[A-Z]+)(?:: (.*))?");
    private static final Pattern HELD = Pattern.compile("PLACE (\\d+) holds (\\d+) / (\\d+)");
    private static final String CALLS = "weight wipe coins drawn sums both held source counted set mean moment tail bound base work order limbs limb digits free coin needed line crossed count";
    private static final String NAMES = "BAD NOTHING FULL WIDE NONE";
    private static final Set<String> CALLED = new TreeSet<>();
    private static final Set<String> NAMED = new TreeSet<>();
    private static int wrong = 0;
    private static int rows = 0;

    private ReadmeTest() {
    }

    public static void main(String[] args) throws Exception {
        String readme = Files.readString(Path.of("README.md"));
        Path folder = Files.createTempDirectory("readme");
        try {
            checkUse(blocks(readme, "java"), folder);
            checkWayToTest(blocks(readme, "sh"), folder);
            checkNamesOfTests(readme);
        } finally {
            remove(folder);
        }
        System.out.println("readme: " + rows + " calls, " + wrong + " not as due");
        if (wrong != 0) {
            System.exit(1);
        }
    }

    private static void due(boolean holds, String what) {
        if (!holds) {
            wrong++;
            System.out.println("README.md: " + what);
        }
    }

    private static List<List<String>> blocks(String text, String language) {
        List<List<String>> found = new ArrayList<>();
        Matcher block = Pattern.compile("(?ms)^```" + language + "\\n(.*?)^```$").matcher(text);
        while (block.find()) {
            found.add(block.group(1).lines().collect(Collectors.toList()));
        }
        return found;
    }

    // ---- the class's use

    private static void checkUse(List<List<String>> blocks, Path folder) throws Exception {
        StringBuilder program = new StringBuilder("public final class ReadmeRuns {\n");
        for (int i = 0; i < blocks.size(); i++) {
            program.append("static void run").append(i).append("() {\n");
            blocks.get(i).forEach(row -> program.append(withCheck(row)));
            due(blocks.get(i).get(0).equals(FIRST_ROW), "a java block does not begin with " + FIRST_ROW);
            program.append("}\n");
        }
        program.append("public static void main(String[] args) {\n");
        for (int i = 0; i < blocks.size(); i++) {
            program.append("run").append(i).append("();\n");
        }
        runProgram(program.append("}\n}\n").toString(), folder);
        due(CALLED.equals(words(CALLS)), "its rows call " + CALLED);
        due(NAMED.equals(words(NAMES)), "its rows answer " + NAMED);
    }

    private static Set<String> words(String text) {
        return new TreeSet<>(List.of(text.split(" ")));
    }

    /** The row as it stands there, and what its comment says of it. */
    private static String withCheck(String row) {
        Matcher call = CALL.matcher(row);
        if (!call.matches()) {
            due(row.equals(FIRST_ROW) || row.startsWith("for ") || row.isBlank(), "no answer is told: " + row);
            return row + "\n";
        }
        CALLED.add(call.group(3));
        boolean named = Character.isLetter(call.group(4).charAt(0));
        if (named) {
            NAMED.add(call.group(4));
        }
        String answer = named ? "TailBounds." + call.group(4) : call.group(4) + "L";
        String name = call.group(1);
        String start = name == null ? "" : row.substring(0, row.indexOf(';') + 1) + "\n";
        String told = "\"" + row.replace("\\", "\\\\").replace("\"", "\\\"") + "\"";
        String check = "ReadmeTest.answers(" + told + ", " + (name == null ? call.group(2) : name) + ", " + answer + ");\n";
        return start + check + heldCheck(told, call.group(5));
    }

    private static String heldCheck(String told, String words) {
        Matcher held = HELD.matcher(words == null ? "" : words);
        return held.find() ? "ReadmeTest.holds(" + told + ", x, " + held.group(1) + ", " + held.group(2) + "L, " + held.group(3) + "L);\n" : "";
    }

    // Public, as the rows are run by a class of another loader.
    public static void answers(String row, long got, long want) {
        rows++;
        due(got == want, row + " | answered " + got);
    }

    public static void holds(String row, TailBounds x, int p, long above, long below) {
        String held = whole(x, p, 0) + " / " + whole(x, p, 1);
        due(held.equals(above + " / " + below), row + " | it holds " + held);
    }

    private static String whole(TailBounds x, int p, int part) {
        int many = x.limbs(p, part);
        if (many < 0 || many > 1) {
            return many + " limbs";
        }
        return many == 0 ? "0" : Long.toString(x.limb(p, part, 0));
    }

    private static void runProgram(String text, Path folder) throws Exception {
        JavaCompiler compiler = ToolProvider.getSystemJavaCompiler();
        due(compiler != null, "this java has no compiler to run its rows with");
        if (compiler == null) {
            return;
        }
        Path file = Files.writeString(folder.resolve("ReadmeRuns.java"), text);
        int done = compiler.run(null, null, null, "--release", "17", "-cp", System.getProperty("java.class.path"), "-d", folder.toString(), file.toString());
        due(done == 0, "its rows do not compile");
        if (done == 0) {
            try (URLClassLoader loader = new URLClassLoader(new URL[] {folder.toUri().toURL()}, ReadmeTest.class.getClassLoader())) {
                loader.loadClass("ReadmeRuns").getMethod("main", String[].class).invoke(null, (Object) new String[0]);
            }
        }
    }

    // ---- the way to run the tests

    private static void checkWayToTest(List<List<String>> blocks, Path folder) throws Exception {
        due(blocks.size() == 2, "not two sh blocks, one for all tests and one for a single test");
        if (blocks.size() != 2) {
            return;
        }
        due(blocks.get(0).equals(List.of(".ci/run")), "the way to run all tests is " + blocks.get(0));
        due(Files.isExecutable(Path.of(".ci/run")), ".ci/run cannot be run");
        due(ownCommands(blocks.get(1)).equals(commandsOfCi()), "a single test is run by " + ownCommands(blocks.get(1)) + ", in .ci/run by " + commandsOfCi());
        runShell(String.join("\n", blocks.get(1)), folder);
    }

    private static List<String> ownCommands(List<String> block) {
        return block.stream().filter(row -> row.startsWith("java")).collect(Collectors.toList());
    }

    /** Its commands of javac and java, with what their variables stand for when PromisesTest is run. */
    private static List<String> commandsOfCi() throws IOException {
        Matcher command = Pattern.compile("\\bjavac? -[^\\n);]*").matcher(Files.readString(Path.of(".ci/run")));
        List<String> found = new ArrayList<>();
        while (command.find()) {
            found.add(command.group().replace("\"$out/$1\"", "\"$out\"").replace("\"$main\"", "src/main/java/TailBounds.java")
                .replace("\"${@:2}\"", "src/test/java/*.java").replace("\"$shared\"", "../shared").replace("\"$2\"", "PromisesTest"));
        }
        return found;
    }

    private static void runShell(String commands, Path folder) throws IOException, InterruptedException {
        Path said = folder.resolve("said");
        ProcessBuilder shell = new ProcessBuilder("bash", "-e", "-c", commands).redirectErrorStream(true).redirectOutput(said.toFile());
        shell.environment().put("TMPDIR", folder.toString());
        int code = shell.start().waitFor();
        String output = Files.readString(said);
        due(code == 0 && output.startsWith("promises: ") && output.trim().endsWith(" 0 not as due"), "its commands for a single test ended with " + code + ":\n" + output);
    }

    private static void checkNamesOfTests(String readme) throws IOException {
        Set<String> told = new TreeSet<>();
        Matcher name = Pattern.compile("(?m)^- `(\\w+Test)`").matcher(readme);
        while (name.find()) {
            told.add(name.group(1));
        }
        try (Stream<Path> files = Files.list(Path.of("src/test/java"))) {
            Set<String> there = files.map(file -> file.getFileName().toString()).filter(file -> file.endsWith("Test.java"))
                .map(file -> file.substring(0, file.length() - ".java".length())).collect(Collectors.toCollection(TreeSet::new));
            due(told.equals(there), "it tells the tests " + told + ", there are " + there);
        }
    }

    private static void remove(Path folder) throws IOException {
        try (Stream<Path> files = Files.walk(folder)) {
            for (Path file : files.sorted(Comparator.reverseOrder()).collect(Collectors.toList())) {
                Files.delete(file);
            }
        }
    }
}
