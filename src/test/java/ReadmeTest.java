import java.io.IOException;
import java.io.StringWriter;
import java.lang.reflect.Method;
import java.lang.reflect.Modifier;
import java.net.URL;
import java.net.URLClassLoader;
import java.nio.file.Files;
import java.nio.file.Path;
import java.util.ArrayList;
import java.util.Comparator;
import java.util.List;
import java.util.regex.Matcher;
import java.util.regex.Pattern;
import java.util.stream.Stream;
import javax.tools.JavaCompiler;
import javax.tools.ToolProvider;

/** What README.md tells: its examples are compiled and tried, its tables compared. */
final class ReadmeTest {
    private static final Pattern EXAMPLE = Pattern.compile("(?s)```java\n(.*?)```");
    /** A call, and behind "//" the answer, in front of a colon or alone. */
    private static final Pattern ANSWERED =
            Pattern.compile("(x\\..*);\\s*// (-?[0-9.]+|[A-Z_]+)(:.*)?");
    private static final Pattern CONSTANT = Pattern.compile("(?m)^\\| `([A-Z_]+)` \\| (-[0-9]+) \\|");
    private static final Pattern ROW_OF_A_CALL =
            Pattern.compile("(?m)^\\| `(int|double) (\\w+)\\((.*?)\\)` \\|");
    private static final Pattern ROW_OF_A_TEST = Pattern.compile("(?m)^\\| `(\\w+Test)` \\|");

    private ReadmeTest() {
    }

    public static void main(String[] args) throws Exception {
        String readme = Files.readString(Path.of("README.md"));
        triesTheExamples(readme);
        namesTheConstants(readme);
        namesEveryCallOnce(readme);
        namesEveryTestOnce(readme);
        Check.finish();
    }

    private static void triesTheExamples(String readme) throws Exception {
        Matcher m = EXAMPLE.matcher(readme);
        int examples = 0;
        String[] calls = {};
        while (m.find()) {
            examples++;
            calls = triesAnExample("Example" + examples, m.group(1), calls);
        }
        Check.due("examples", examples, 3);
        for (Method method : TwoScribes.class.getDeclaredMethods()) {
            String name = "x." + method.getName() + "(";
            Check.holds(name + " is tried", !Modifier.isPublic(method.getModifiers())
                    || Stream.of(calls).anyMatch(call -> call.startsWith(name)));
        }
    }

    /** Answers the calls that were tried so far, this example's behind the earlier ones. */
    private static String[] triesAnExample(String name, String code, String[] earlier) throws Exception {
        Path folder = Files.createTempDirectory("readme");
        try {
            List<String> calls = new ArrayList<>();
            Path source = folder.resolve(name + ".java");
            Files.writeString(source, program(name, code, calls));
            compile(source, folder);
            List<double[]> answers = new ArrayList<>();
            try (URLClassLoader loader = new URLClassLoader(new URL[] {folder.toUri().toURL()})) {
                loader.loadClass(name).getMethod("run", List.class).invoke(null, answers);
            }
            Check.due(name + ": calls that were made", answers.size(), calls.size());
            for (int i = 0; i < answers.size(); i++) {
                Check.dueInk(name + ": " + calls.get(i), answers.get(i)[0], answers.get(i)[1]);
            }
            return Stream.concat(Stream.of(earlier), calls.stream()).toArray(String[]::new);
        } finally {
            delete(folder);
        }
    }

    /** The example as a class whose run() adds a pair for each call: what it answered, what is due. */
    private static String program(String name, String code, List<String> calls) {
        StringBuilder program = new StringBuilder("public final class " + name + " {\n");
        program.append("public static void run(java.util.List<double[]> answers) {\n");
        for (String line : code.split("\n")) {
            Matcher m = ANSWERED.matcher(line);
            if (m.matches()) {
                String due = m.group(2).matches("[A-Z_]+") ? "TwoScribes." + m.group(2) : m.group(2);
                calls.add(m.group(1));
                program.append("answers.add(new double[] {").append(m.group(1)).append(", ")
                        .append(due).append("});\n");
            } else {
                Check.holds("a line without an answer only prepares: " + line,
                        line.matches("TwoScribes x = .*|for .*|    x\\.type\\(c\\);.*|}"));
                program.append(line).append('\n');
            }
        }
        return program.append("}\n}\n").toString();
    }

    private static void compile(Path source, Path folder) {
        JavaCompiler compiler = ToolProvider.getSystemJavaCompiler();
        Check.holds("there is a compiler", compiler != null);
        StringWriter told = new StringWriter();
        boolean isCompiled = compiler.getTask(told, null, null,
                List.of("-d", folder.toString(), "-cp", System.getProperty("java.class.path")), null,
                compiler.getStandardFileManager(null, null, null).getJavaFileObjects(source)).call();
        Check.holds("the example compiles: " + told, isCompiled);
    }

    private static void delete(Path folder) throws IOException {
        try (Stream<Path> found = Files.walk(folder)) {
            for (Path path : found.sorted(Comparator.reverseOrder()).toList()) {
                Files.delete(path);
            }
        }
    }

    private static void namesTheConstants(String readme) throws Exception {
        Matcher m = CONSTANT.matcher(readme);
        int rows = 0;
        while (m.find()) {
            rows++;
            Check.due(m.group(1), TwoScribes.class.getField(m.group(1)).getInt(null),
                    Integer.parseInt(m.group(2)));
        }
        Check.due("rows of constants", rows, TwoScribes.class.getFields().length);
    }

    private static void namesEveryCallOnce(String readme) throws Exception {
        Matcher m = ROW_OF_A_CALL.matcher(readme);
        List<String> named = new ArrayList<>();
        while (m.find()) {
            // The types alone, as reflection tells them.
            String types = m.group(3).replaceAll("(\\w+) \\w+", "$1").replace(" ", "");
            named.add("public " + m.group(1) + " TwoScribes." + m.group(2) + "(" + types + ")");
        }
        List<String> due = new ArrayList<>();
        for (Method method : TwoScribes.class.getDeclaredMethods()) {
            if (Modifier.isPublic(method.getModifiers())) {
                due.add(method.toString());
            }
        }
        sameNames("calls", named, due);
    }

    private static void namesEveryTestOnce(String readme) throws IOException {
        Matcher m = ROW_OF_A_TEST.matcher(readme);
        List<String> named = new ArrayList<>();
        while (m.find()) {
            named.add(m.group(1));
        }
        try (Stream<Path> files = Files.list(Path.of("src/test/java"))) {
            sameNames("tests", named, files.map(file -> file.getFileName().toString())
                    .filter(file -> file.endsWith("Test.java"))
                    .map(file -> file.replace(".java", "")).toList());
        }
    }

    private static void sameNames(String what, List<String> named, List<String> due) {
        Check.holds(what + " are named as they are: " + named,
                named.stream().sorted().toList().equals(due.stream().sorted().toList()));
    }
}
