import java.io.File;
import java.io.IOException;
import java.lang.reflect.InvocationTargetException;
import java.lang.reflect.Method;
import java.lang.reflect.Modifier;
import java.nio.file.Files;
import java.nio.file.Path;
import java.util.Set;
import java.util.TreeSet;
import java.util.regex.Matcher;
import java.util.regex.Pattern;

/** README.md: its example answers what it says, and it names all methods and all tests. */
public final class ReadmeTest {
    // x.method(arguments);  // answer: why
    private static final Pattern CALL =
            Pattern.compile("x\\.(\\w+)\\((.*)\\);\\s+// (?:throws )?([-\\w]+)(?:[:;].*)?");
    private static final Pattern TEXT =
            Pattern.compile("for \\(char c : \"(.*)\"\\.toCharArray\\(\\)\\) \\{");

    private static final Due due = new Due();

    public static void main(String[] args) throws IOException {
        String readme = Files.readString(Path.of("README.md"));
        String[] parts = readme.split("```java\n|```\n");
        due.same("one example and what stands around it", parts.length, 3);
        if (parts.length == 3) {
            example(parts[1]);
            methods(parts[2]);
            tests(parts[2]);
        }
        due.end();
    }

    private static void example(String lines) {
        EaseCurves x = null;
        for (String line : lines.split("\n")) {
            Matcher call = CALL.matcher(line);
            Matcher text = TEXT.matcher(line);
            if (line.equals("EaseCurves x = new EaseCurves();")) {
                x = new EaseCurves();
            } else if (call.matches()) {
                String got = answer(x, call.group(1), call.group(2).split(", "));
                due.same(line + " (" + got + ")", got.equals(call.group(3)) ? 1 : 0, 1);
            } else if (text.matches()) {
                Curves.write(x, text.group(1));
            } else if (!line.equals("    x.append(c);") && !line.equals("}")) {
                due.miss("not understood: " + line);
            }
        }
    }

    private static String answer(EaseCurves x, String name, String[] arguments) {
        for (Method method : EaseCurves.class.getMethods()) {
            if (method.getName().equals(name)) {
                Object[] values = new Object[method.getParameterCount()];
                for (int i = 0; i < values.length; i++) {
                    values[i] = argument(arguments[i]);
                }
                return answer(x, method, values);
            }
        }
        return "no such method";
    }

    private static String answer(EaseCurves x, Method method, Object[] values) {
        try {
            return String.valueOf(method.invoke(x, values));
        } catch (InvocationTargetException e) {
            return e.getCause().getClass().getSimpleName();
        } catch (IllegalAccessException e) {
            return "not public";
        }
    }

    private static Object argument(String written) {
        if (written.equals("true") || written.equals("false")) {
            return Boolean.valueOf(written);
        }
        if (written.equals("EaseCurves.NONE")) {
            return EaseCurves.NONE;
        }
        return written.startsWith("'") ? (Object) (int) written.charAt(1) : Integer.valueOf(written);
    }

    private static void methods(String tables) {
        Set<String> named = firstCells(tables);
        for (Method method : EaseCurves.class.getDeclaredMethods()) {
            if (Modifier.isPublic(method.getModifiers())) {
                due.same(method.getName() + " is told of",
                        named.contains(method.getName()) ? 1 : 0, 1);
            }
        }
    }

    private static void tests(String tables) {
        Set<String> told = firstCells(tables);
        told.removeIf(name -> !name.endsWith("Test"));
        Set<String> there = new TreeSet<>();
        for (String file : new File("src/test/java").list()) {
            if (file.endsWith("Test.java")) {
                there.add(file.replace(".java", ""));
            }
        }
        due.same("tests told " + told + ", tests there " + there, told.equals(there) ? 1 : 0, 1);
    }

    /** The names in the first cells of the tables' rows. */
    private static Set<String> firstCells(String tables) {
        Set<String> names = new TreeSet<>();
        for (String line : tables.split("\n")) {
            if (line.startsWith("| `")) {
                Matcher name = Pattern.compile("`(\\w+)`").matcher(line.split(" \\| ")[0]);
                while (name.find()) {
                    names.add(name.group(1));
                }
            }
        }
        return names;
    }
}
