import java.io.IOException;
import java.net.URL;
import java.net.URLClassLoader;
import java.nio.file.Files;
import java.nio.file.Path;
import java.util.ArrayList;
import java.util.List;
import java.util.Set;
import java.util.TreeSet;
import java.util.regex.Matcher;
import java.util.regex.Pattern;
import java.util.stream.Collectors;
import java.util.stream.Stream;
import javax.tools.ToolProvider;

/** README.md: its example answers what stands behind the calls, and it leaves out no call and no test. */
public final class ReadmeTests {
    private static final Pattern ANSWERED = Pattern.compile("(town\\..*\\)); *// (-?\\d+|NONE|BAD|NOT|FULL)\\b.*");
    private static final Pattern METHOD = Pattern.compile("(?m)^    public (?:int|long) (\\w+)\\(([^)]*)\\) \\{$");

    private static int checks = 0;
    private static int wrong = 0;

    public static void main(String[] args) throws IOException, ReflectiveOperationException {
        List<String> readme = Files.readAllLines(Path.of("README.md"));
        String source = Files.readString(Path.of("src/main/java/SweptDownhill.java"));
        calls(String.join("\n", readme), source);
        tests(String.join("\n", readme));
        example(readme);
        System.out.println("README: " + checks + " checks, " + wrong + " wrong");
        if (wrong != 0) {
            System.exit(1);
        }
    }

    private static void check(boolean holds, String what) {
        checks++;
        if (!holds) {
            wrong++;
            System.out.println("README: " + what);
        }
    }

    /** Called by the example for each line behind whose call there stands an answer. */
    public static void answer(int line, long got, long want) {
        check(got == want, "line " + line + " answers " + got + ", but " + want + " stands there");
    }

    private static void calls(String readme, String source) {
        Set<String> told = new TreeSet<>();
        Matcher rows = Pattern.compile("(?m)^\\| `([^`]*\\))` \\|").matcher(readme);
        while (rows.find()) {
            check(told.add(rows.group(1)), "there is more than one row of " + rows.group(1));
        }
        Matcher methods = METHOD.matcher(source);
        while (methods.find()) {
            String call = methods.group(1) + "(" + methods.group(2).replace("int ", "") + ")";
            check(told.remove(call), "there is no row of " + call);
        }
        check(told.isEmpty(), "the class has no " + told);
        for (String refusal : List.of("BAD", "NOT", "FULL")) {
            check(readme.contains("| `" + refusal + "` | "), "there is no row of " + refusal);
        }
        check(readme.contains("| `BAD` | " + SweptDownhill.BAD + " |"), "BAD");
        check(readme.contains("| `NOT` | " + SweptDownhill.NOT + " |"), "NOT");
        check(readme.contains("| `FULL` | " + SweptDownhill.FULL + " |"), "FULL");
    }

    private static void tests(String readme) throws IOException {
        check(readme.contains("bash .ci/run"), "it does not tell how to run the tests");
        try (Stream<Path> files = Files.list(Path.of("src/test/java"))) {
            Set<String> names = files.map(file -> file.getFileName().toString())
                .filter(name -> name.endsWith("Tests.java")).collect(Collectors.toCollection(TreeSet::new));
            for (String name : names) {
                check(readme.contains("- `" + name.replace(".java", "") + "`: "), name + " is not told");
            }
        }
    }

    /** Compiles what stands between ```java and ```, with each answer that is told made a check, and runs it. */
    private static void example(List<String> readme) throws IOException, ReflectiveOperationException {
        List<String> lines = new ArrayList<>(List.of("public final class Example { public static void run() {"));
        boolean inside = false;
        int answers = 0;
        for (int i = 0; i < readme.size(); i++) {
            String line = readme.get(i);
            if (line.startsWith("```")) {
                inside = line.equals("```java");
            } else if (inside) {
                Matcher answered = ANSWERED.matcher(line);
                boolean hasAnswer = answered.matches();
                check(hasAnswer || !line.startsWith("town."), "line " + (i + 1) + " tells no answer");
                answers += hasAnswer ? 1 : 0;
                lines.add(hasAnswer ? checked(i + 1, answered.group(1), answered.group(2)) : line);
            }
        }
        lines.add("}}");
        check(answers > 0, "there is no example");
        Path folder = Files.createTempDirectory("readme");
        Path file = Files.write(folder.resolve("Example.java"), lines);
        String classes = System.getProperty("java.class.path");
        boolean compiled = ToolProvider.getSystemJavaCompiler().run(null, null, null, "-cp", classes, file.toString()) == 0;
        check(compiled, "the example does not compile");
        if (compiled) {
            try (URLClassLoader loader = new URLClassLoader(new URL[] {folder.toUri().toURL()})) {
                loader.loadClass("Example").getMethod("run").invoke(null);
            }
        }
        Files.deleteIfExists(folder.resolve("Example.class"));
        Files.delete(file);
        Files.delete(folder);
    }

    private static String checked(int line, String call, String answer) {
        String want = Character.isLetter(answer.charAt(0)) ? "SweptDownhill." + answer : answer;
        return "ReadmeTests.answer(" + line + ", " + call + ", " + want + ");";
    }
}
