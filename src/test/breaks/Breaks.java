import java.io.ByteArrayOutputStream;
import java.io.IOException;
import java.io.OutputStream;
import java.lang.reflect.InvocationTargetException;
import java.net.URI;
import java.nio.file.Files;
import java.nio.file.Path;
import java.util.ArrayList;
import java.util.HashMap;
import java.util.LinkedHashSet;
import java.util.List;
import java.util.Map;
import java.util.Set;
import java.util.regex.Matcher;
import java.util.regex.Pattern;
import java.util.stream.Collectors;
import java.util.stream.Stream;
import javax.tools.FileObject;
import javax.tools.ForwardingJavaFileManager;
import javax.tools.JavaCompiler;
import javax.tools.JavaFileManager;
import javax.tools.JavaFileObject;
import javax.tools.SimpleJavaFileObject;
import javax.tools.ToolProvider;

/**
 * Breaks the class in one place at a time, as breaks.txt tells, and looks whether the tests of the boundaries that
 * are broken with it fail, and whether there is a break for each boundary.
 */
public final class Breaks {
    private record Break(List<String> names, String piece, String instead) { }

    /** Compiles one source from memory into memory. */
    private static final class Memory extends ForwardingJavaFileManager<JavaFileManager> {
        final Map<String, ByteArrayOutputStream> classes = new HashMap<>();

        Memory(JavaFileManager files) {
            super(files);
        }

        @Override
        public JavaFileObject getJavaFileForOutput(Location place, String name, JavaFileObject.Kind kind, FileObject near) {
            ByteArrayOutputStream bytes = new ByteArrayOutputStream();
            classes.put(name, bytes);
            return new SimpleJavaFileObject(URI.create("memory:///" + name + kind.extension), kind) {
                @Override
                public OutputStream openOutputStream() {
                    return bytes;
                }
            };
        }
    }

    /** Loads the broken class, and the tests anew, so that they see it. */
    private static final class Loader extends ClassLoader {
        private final Map<String, byte[]> classes;

        Loader(Map<String, byte[]> classes) {
            super(ClassLoader.getPlatformClassLoader());
            this.classes = classes;
        }

        @Override
        protected Class<?> findClass(String name) throws ClassNotFoundException {
            byte[] bytes = classes.get(name);
            if (bytes == null) {
                throw new ClassNotFoundException(name);
            }
            return defineClass(name, bytes, 0, bytes.length);
        }
    }

    public static void main(String[] args) throws IOException {
        String source = Files.readString(Path.of(args[0]));
        Map<String, byte[]> tests = classesIn(Path.of(args[1]));
        List<Break> breaks = breaksIn(Files.readAllLines(Path.of(args[2])));
        Set<String> names = EdgeTests.edges().stream().map(Edge::name).collect(Collectors.toCollection(LinkedHashSet::new));
        List<String> wrong = new ArrayList<>(breaks.parallelStream().flatMap(b -> wrongsOf(b, source, tests)).toList());
        for (Break b : breaks) {
            b.names().stream().filter(name -> !names.contains(name)).forEach(name -> wrong.add("no boundary: " + name));
        }
        for (Break b : breaks) {
            names.removeAll(b.names());
        }
        names.forEach(name -> wrong.add("no break: " + name));
        wrong.forEach(System.out::println);
        System.out.println(breaks.size() + " breaks, " + wrong.size() + " wrong");
        if (!wrong.isEmpty()) {
            System.exit(1);
        }
    }

    private static Map<String, byte[]> classesIn(Path folder) throws IOException {
        Map<String, byte[]> classes = new HashMap<>();
        try (Stream<Path> files = Files.list(folder)) {
            for (Path file : files.filter(f -> f.toString().endsWith(".class")).toList()) {
                classes.put(file.getFileName().toString().replace(".class", ""), Files.readAllBytes(file));
            }
        }
        return classes;
    }

    private static List<Break> breaksIn(List<String> lines) {
        List<Break> breaks = new ArrayList<>();
        List<String> names = new ArrayList<>();
        List<String> piece = new ArrayList<>();
        List<String> instead = new ArrayList<>();
        List<String> all = new ArrayList<>(lines.subList(lines.indexOf("") + 1, lines.size()));
        all.add("");
        for (String line : all) {
            if (line.startsWith("= ")) {
                names.add(line.substring(2));
            } else if (line.startsWith("- ")) {
                piece.add(line.substring(2));
            } else if (line.startsWith("+ ")) {
                instead.add(line.substring(2));
            } else if (!names.isEmpty()) {
                breaks.add(new Break(List.copyOf(names), String.join(" ", piece), String.join("\n", instead)));
                names.clear();
                piece.clear();
                instead.clear();
            }
        }
        return breaks;
    }

    private static Stream<String> wrongsOf(Break b, String source, Map<String, byte[]> tests) {
        String told = " (" + b.piece() + " -> " + b.instead() + ")";
        String pattern = Stream.of(b.piece().split(" +")).map(Pattern::quote).collect(Collectors.joining("\\s+"));
        // A piece that ends in a figure does not end within a greater number.
        Matcher place = Pattern.compile(pattern + "(?![0-9])").matcher(source);
        if (!place.find()) {
            return Stream.of("does not stand in the class:" + told);
        }
        String broken = source.substring(0, place.start()) + b.instead() + source.substring(place.end());
        if (place.find()) {
            return Stream.of("stands in the class more than once:" + told);
        }
        Map<String, byte[]> classes = new HashMap<>(tests);
        if (!compiled(broken, classes)) {
            return Stream.of("does not compile:" + told);
        }
        List<String> failing = failing(new Loader(classes));
        return b.names().stream().filter(name -> !failing.contains(name)).map(name -> "passes: " + name + told);
    }

    private static boolean compiled(String source, Map<String, byte[]> classes) {
        JavaCompiler compiler = ToolProvider.getSystemJavaCompiler();
        Memory memory = new Memory(compiler.getStandardFileManager(null, null, null));
        JavaFileObject file = new SimpleJavaFileObject(URI.create("memory:///SweptDownhill.java"), JavaFileObject.Kind.SOURCE) {
            @Override
            public CharSequence getCharContent(boolean ignoreEncodingErrors) {
                return source;
            }
        };
        boolean done = compiler.getTask(null, memory, d -> { }, List.of("-nowarn"), null, List.of(file)).call();
        memory.classes.forEach((name, bytes) -> classes.put(name, bytes.toByteArray()));
        return done;
    }

    private static List<String> failing(ClassLoader loader) {
        try {
            Object names = loader.loadClass("EdgeTests").getMethod("broken").invoke(null);
            return List.of(((String) names).split("\n"));
        } catch (ReflectiveOperationException e) {
            throw new IllegalStateException(e);
        }
    }
}
