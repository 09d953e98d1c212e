import java.io.IOException;
import java.lang.reflect.Constructor;
import java.lang.reflect.Field;
import java.lang.reflect.Method;
import java.lang.reflect.Modifier;
import java.nio.charset.StandardCharsets;
import java.nio.file.Files;
import java.nio.file.Path;
import java.util.ArrayList;
import java.util.List;
import java.util.Set;
import java.util.TreeSet;
import java.util.regex.Matcher;
import java.util.regex.Pattern;

/** The rules of LANGUAGE.md that a program can look at: the face, what stands in classes, what may not stand. */
public final class RulesTests {
    private static final String[] FACE = {
        "int type(int, int)", "int wipe(int)", "int fault(int)", "int height(int)", "int street(int, int)",
        "int set(int, int, int)", "int read(int)", "int fall(int, int, int, int)", "int sweep(int, int)",
        "int cart(int, int)", "int rain(int, int)", "int undo(int)", "int lies(int, int, int)", "int fine(int)",
        "int judged()", "int least(int, int)", "int nets(int, int)", "int cut(int, int, int)", "int bribe(int, int)",
        "int rests()", "long odds(int, int)", "int waits(int)", "int who(int, int, int)", "int origin(int, int)",
        "int best()", "int sheet(int, int, int)", "int lose(int)", "int put(int, int, int, int)",
        "int get(int, int, int)", "int copy(int, int, int, int, int)", "int write(int, int)", "int count(int)",
        "long digest()"};
    private static final String[] FORBIDDEN = {
        "throw", "throws", "try", "catch", "finally", "synchronized", "assert", "package", "hashCode", "getClass",
        "Object", "Thread", "Runtime", "Random"};
    /** What may be called by the name of a class of the library, and what may be imported. */
    private static final String LIBRARY = "(Integer|Long|Math)\\.[a-z]\\w*(?<!Exact)|System\\.arraycopy"
        + "|Arrays\\.(copyOf|copyOfRange|fill)|List\\.of";
    private static final String IMPORTS = "java\\.util\\.(ArrayList|List|Arrays|Iterator)";

    private static int wrong = 0;

    public static void main(String[] args) throws IOException {
        if (args.length < 1) {
            System.out.println("the source's path is not told");
            System.exit(1);
        }
        String source = Files.readString(Path.of(args[0]), StandardCharsets.US_ASCII);
        face();
        for (Class<?> each : classes()) {
            members(each);
        }
        words(bare(source));
        lengths(source);
        System.out.println("rules: " + wrong + " wrong");
        if (wrong != 0) {
            System.exit(1);
        }
    }

    private static void check(boolean holds, String what) {
        if (!holds) {
            wrong++;
            System.out.println("rule broken: " + what);
        }
    }

    private static List<Class<?>> classes() {
        List<Class<?>> classes = new ArrayList<>();
        classes.add(SweptDownhill.class);
        classes.addAll(List.of(SweptDownhill.class.getDeclaredClasses()));
        check(classes.size() <= 12, "some twelve classes");
        return classes;
    }

    private static String signature(Method m) {
        StringBuilder s = new StringBuilder(m.getReturnType().getSimpleName()).append(' ').append(m.getName());
        s.append('(');
        for (Class<?> type : m.getParameterTypes()) {
            s.append(s.charAt(s.length() - 1) == '(' ? "" : ", ").append(type.getSimpleName());
        }
        return s.append(')').toString();
    }

    private static void face() {
        Set<String> seen = new TreeSet<>();
        for (Method m : SweptDownhill.class.getDeclaredMethods()) {
            if (!Modifier.isPrivate(m.getModifiers())) {
                check(Modifier.isPublic(m.getModifiers()) && !Modifier.isStatic(m.getModifiers()), signature(m));
                seen.add(signature(m));
            }
        }
        check(seen.equals(new TreeSet<>(List.of(FACE))), "the face: " + seen);
        Constructor<?>[] constructors = SweptDownhill.class.getDeclaredConstructors();
        check(constructors.length == 1 && Modifier.isPublic(constructors[0].getModifiers())
            && constructors[0].getParameterCount() == 0, "one public constructor");
        Set<String> constants = new TreeSet<>();
        for (Field f : SweptDownhill.class.getDeclaredFields()) {
            if (!Modifier.isPrivate(f.getModifiers())) {
                constants.add(f.getName());
                check(Modifier.isPublic(f.getModifiers()) && Modifier.isStatic(f.getModifiers())
                    && Modifier.isFinal(f.getModifiers()) && f.getType() == int.class, "constant " + f.getName());
            }
        }
        check(constants.equals(Set.of("NONE", "BAD", "NOT", "FULL")), "constants " + constants);
        check(Modifier.isFinal(SweptDownhill.class.getModifiers()), "final");
    }

    private static void members(Class<?> each) {
        boolean inner = each != SweptDownhill.class;
        check(!inner || Modifier.isStatic(each.getModifiers()) && !Modifier.isPublic(each.getModifiers()),
            each + " is static and not public");
        int fields = 0;
        for (Field f : each.getDeclaredFields()) {
            boolean fixed = Modifier.isStatic(f.getModifiers());
            fields += fixed ? 0 : 1;
            check(!fixed || f.isSynthetic() || Modifier.isFinal(f.getModifiers()) && isConstant(f.getType()), "static " + f);
        }
        check(fields <= 20, each + " has " + fields + " fields");
        Set<String> faceNames = new TreeSet<>();
        for (String method : FACE) {
            faceNames.add(method.replaceAll("^\\w+ |\\(.*", ""));
        }
        for (Method m : each.getDeclaredMethods()) {
            check(!Modifier.isPrivate(m.getModifiers()) || !faceNames.contains(m.getName()),
                m + " bears the name of a public method");
            check(m.getParameterCount() <= 7, m + " has too many parameters");
        }
    }

    private static boolean isConstant(Class<?> type) {
        Class<?> item = type.isArray() ? type.getComponentType() : type;
        return item.isPrimitive() || !type.isArray() && (type == String.class || type.isEnum());
    }

    /** The source without its comments and without what stands between quotes. */
    private static String bare(String source) {
        return source.replaceAll("(?s)/\\*.*?\\*/", " ").replaceAll("//[^\n]*", " ")
            .replaceAll("'(\\\\.|[^'])'", "0").replaceAll("\"(\\\\.|[^\"\n])*\"", "\"\"");
    }

    private static void words(String bare) {
        for (String word : FORBIDDEN) {
            check(!Pattern.compile("\\b" + word + "\\b").matcher(bare).find(), "the word " + word);
        }
        // An arrow behind a case is a switch's, any other one a lambda's.
        String noCases = bare.replaceAll("\\b(case\\b[^;{}]*?|default\\s*)->", "");
        check(!noCases.contains("->") && !bare.contains("::"), "no lambdas, no method references");
        check(!Pattern.compile("static\\s*\\{").matcher(bare).find(), "no static block");
        check(!Pattern.compile("\\b(boolean equals|int hashCode|String toString)\\s*\\(").matcher(bare).find(),
            "no equals, hashCode or toString of its own");
        Matcher imports = Pattern.compile("\\bimport\\s+([\\w.*]+)").matcher(bare);
        while (imports.find()) {
            check(imports.group(1).matches(IMPORTS), imports.group());
        }
        Set<String> own = new TreeSet<>();
        classes().forEach(each -> own.add(each.getSimpleName()));
        Matcher calls = Pattern.compile("(?<![\\w.])([A-Z]\\w*)\\.([a-z]\\w*)\\s*\\(").matcher(bare);
        while (calls.find()) {
            String call = calls.group(1) + "." + calls.group(2);
            check(own.contains(calls.group(1)) || call.matches(LIBRARY), "the library's " + call);
        }
    }

    private static void lengths(String source) {
        String[] lines = source.split("\n", -1);
        int start = -1;
        String indent = "";
        for (int i = 0; i < lines.length; i++) {
            if (lines[i].matches("( {4}| {8})(public|private|static|final|int|void|boolean|long|[A-Z]\\w*) ?.*\\) \\{")) {
                start = i;
                indent = lines[i].replaceAll("\\S.*", "");
            } else if (start >= 0 && lines[i].equals(indent + "}")) {
                check(i - start < 60, "method of " + (i - start + 1) + " lines at " + (start + 1));
                start = -1;
            }
        }
    }
}
