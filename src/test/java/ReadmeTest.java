import java.lang.reflect.InvocationTargetException;
import java.lang.reflect.Method;
import java.lang.reflect.Modifier;
import java.nio.file.Files;
import java.nio.file.Path;
import java.util.ArrayList;
import java.util.List;
import java.util.Set;
import java.util.TreeSet;
import java.util.regex.Matcher;
import java.util.regex.Pattern;

/** What README.md says that a call answers is what it answers. Run from the project's directory. */
public final class ReadmeTest {
    private static final Pattern CALL = Pattern.compile(
        "x\\.(\\w+)\\(([^)]*)\\); *// (-?\\d+|throws \\w+)(?: \\((BAD|FULL|NO)\\))?: .+");
    private static final Pattern TABLE_ROW = Pattern.compile("\\| `(\\w+)\\(([^)]*)\\)` \\| .+ \\|");
    private static final Pattern CONSTANT = Pattern.compile("`(BAD|FULL|NO)` is (-?\\d+)");

    private static int wrong = 0;

    private static void tell(String what) {
        wrong++;
        System.out.println(what);
    }

    public static void main(String[] args) throws Exception {
        List<String> lines = Files.readAllLines(Path.of("README.md"));
        examples(lines);
        table(lines);
        constants(String.join(" ", lines));
        System.out.println(wrong == 0 ? "README.md is right" : wrong + " things in README.md are not so");
        if (wrong != 0) {
            System.exit(1);
        }
    }

    private static void examples(List<String> lines) throws Exception {
        Set<String> seen = new TreeSet<>();
        FacetCounts x = null;
        boolean inside = false;
        for (String line : lines) {
            if (line.startsWith("```")) {
                inside = line.equals("```java");
            } else if (inside && line.equals("FacetCounts x = new FacetCounts();")) {
                x = new FacetCounts();
            } else if (inside) {
                seen.add(example(x, line));
            }
        }
        if (!seen.equals(namesOfFace())) {
            tell("the examples call " + seen + ", due is " + namesOfFace());
        }
    }

    /** Makes the call of a line, looks at its answer, and tells the method's name. */
    private static String example(FacetCounts x, String line) throws Exception {
        Matcher m = CALL.matcher(line);
        if (x == null || !m.matches()) {
            tell("no call with its answer: " + line);
            return "";
        }
        String got = answer(x, m.group(1), m.group(2));
        if (!got.equals(m.group(3))) {
            tell(line + " <- answered " + got);
        }
        // A negative answer is always one of the constants, and is to be told by name.
        String name = m.group(4);
        if (got.startsWith("-") ? name == null || !got.equals(constant(name)) : name != null) {
            tell(line + " <- the name of the answer is not right");
        }
        return m.group(1);
    }

    private static String answer(FacetCounts x, String name, String written) throws Exception {
        Method method = methodOf(name);
        if (method == null) {
            return "no such method";
        }
        List<Object> arguments = new ArrayList<>();
        for (String one : parts(written)) {
            boolean flag = one.equals("true") || one.equals("false");
            arguments.add(flag ? (Object) Boolean.valueOf(one) : (Object) Integer.valueOf(one));
        }
        try {
            return method.invoke(x, arguments.toArray()).toString();
        } catch (InvocationTargetException e) {
            return "throws " + e.getCause().getClass().getSimpleName();
        }
    }

    private static void table(List<String> lines) {
        Set<String> seen = new TreeSet<>();
        for (String line : lines) {
            Matcher m = TABLE_ROW.matcher(line);
            if (m.matches()) {
                Method method = methodOf(m.group(1));
                if (method == null || method.getParameterCount() != parts(m.group(2)).size()) {
                    tell("no such call: " + line);
                }
                seen.add(m.group(1));
            }
        }
        if (!seen.equals(namesOfFace())) {
            tell("the table has " + seen + ", due is " + namesOfFace());
        }
    }

    private static void constants(String text) throws Exception {
        Set<String> seen = new TreeSet<>();
        Matcher m = CONSTANT.matcher(text);
        while (m.find()) {
            seen.add(m.group(1));
            if (!constant(m.group(1)).equals(m.group(2))) {
                tell(m.group() + " <- is " + constant(m.group(1)));
            }
        }
        if (!seen.equals(Set.of("BAD", "FULL", "NO"))) {
            tell("of the constants only these are told: " + seen);
        }
    }

    private static String constant(String name) throws Exception {
        return FacetCounts.class.getField(name).get(null).toString();
    }

    private static List<String> parts(String written) {
        return written.isEmpty() ? List.of() : List.of(written.split(", "));
    }

    private static Method methodOf(String name) {
        for (Method method : FacetCounts.class.getDeclaredMethods()) {
            if (Modifier.isPublic(method.getModifiers()) && method.getName().equals(name)) {
                return method;
            }
        }
        return null;
    }

    private static Set<String> namesOfFace() {
        Set<String> names = new TreeSet<>();
        for (Method method : FacetCounts.class.getDeclaredMethods()) {
            if (Modifier.isPublic(method.getModifiers())) {
                names.add(method.getName());
            }
        }
        return names;
    }
}
