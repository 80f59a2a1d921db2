import java.io.IOException;
import java.lang.reflect.InvocationTargetException;
import java.lang.reflect.Method;
import java.lang.reflect.Modifier;
import java.nio.file.Files;
import java.nio.file.Path;
import java.util.ArrayList;
import java.util.HashMap;
import java.util.HashSet;
import java.util.List;
import java.util.Map;
import java.util.Set;
import java.util.regex.Matcher;
import java.util.regex.Pattern;

/**
 * The example of README.md, run line by line as it stands there: each call has to answer what the comment behind
 * it says. Each call of the class has to be in the example and in the table of calls. Runs in README.md's folder.
 */
public final class ReadmeTest {
    private static final String NEW_HOUSE = "SignOnHouse house = new SignOnHouse();";
    private static final Pattern CALL = Pattern.compile(
            "(?:int (?<variable>\\w+) = )?house\\.(?<name>\\w+)\\((?<arguments>[^)]*)\\); +"
                    + "// (?<answer>throws \\w+|[\\w.]+)(?:: .+)?");

    private final SignOnHouse house = new SignOnHouse();
    private final Map<String, String> variables = new HashMap<>();
    private final Set<String> called = new HashSet<>();

    public static void main(String[] args) throws IOException {
        List<String> page = Files.readAllLines(Path.of("README.md"));
        ReadmeTest test = new ReadmeTest();
        test.example(page);
        test.allCallsAreTold(page);
        Due.end();
    }

    private void example(List<String> page) {
        List<String> lines = linesOfExample(page);
        Due.same("README: the example begins", lines.isEmpty() ? "" : lines.get(0), NEW_HOUSE);
        for (String line : lines) {
            Matcher call = CALL.matcher(line);
            if (call.matches()) {
                run(line, call);
            } else if (!line.isEmpty()) {
                Due.same("README: a line that is no call", line, NEW_HOUSE);
            }
        }
    }

    private static List<String> linesOfExample(List<String> page) {
        int begin = page.indexOf("```java") + 1;
        List<String> rest = page.subList(begin, page.size());
        return rest.subList(0, Math.max(0, rest.indexOf("```")));
    }

    private void run(String line, Matcher call) {
        called.add(call.group("name"));
        String answer = answer(call.group("name"), call.group("arguments"));
        Due.same("README: " + line, answer, meant(call.group("answer")));
        if (call.group("variable") != null) {
            variables.put(call.group("variable"), answer);
        }
    }

    private String answer(String name, String arguments) {
        Object[] values = values(arguments);
        for (Method method : SignOnHouse.class.getMethods()) {
            if (method.getName().equals(name) && method.getParameterCount() == values.length) {
                return answer(method, values);
            }
        }
        return "no such call";
    }

    private String answer(Method method, Object[] values) {
        try {
            return String.valueOf(method.invoke(house, values));
        } catch (InvocationTargetException e) {
            return "throws " + e.getCause().getClass().getSimpleName();
        } catch (IllegalAccessException | IllegalArgumentException e) {
            return "cannot be called so";
        }
    }

    private Object[] values(String arguments) {
        List<Object> values = new ArrayList<>();
        for (String text : arguments.isEmpty() ? new String[0] : arguments.split(", ")) {
            String value = variables.getOrDefault(text, text);
            boolean isNumber = value.matches("-?\\d+");
            values.add(isNumber ? (Object) Integer.valueOf(value) : (Object) Boolean.valueOf(value));
        }
        return values.toArray();
    }

    private static String meant(String answer) {
        switch (answer) {
            case "SignOnHouse.LET_IN":
                return Integer.toString(SignOnHouse.LET_IN);
            case "SignOnHouse.REFUSED":
                return Integer.toString(SignOnHouse.REFUSED);
            case "SignOnHouse.NO_SESSION":
                return Integer.toString(SignOnHouse.NO_SESSION);
            default:
                return answer;
        }
    }

    private void allCallsAreTold(List<String> page) {
        for (Method method : SignOnHouse.class.getDeclaredMethods()) {
            if (Modifier.isPublic(method.getModifiers())) {
                String name = method.getName();
                Due.is("README: the example has " + name, called.contains(name), true);
                Due.is("README: the table has " + name, isInTable(page, name, method.getParameterCount()), true);
            }
        }
    }

    private static boolean isInTable(List<String> page, String name, int parameters) {
        String list = parameters == 0 ? "" : "\\w+" + ", \\w+".repeat(parameters - 1);
        String row = "\\| `" + name + "\\(" + list + "\\)` \\|.*";
        return page.stream().anyMatch(line -> line.matches(row));
    }
}
