import java.io.IOException;
import java.lang.reflect.InvocationTargetException;
import java.lang.reflect.Method;
import java.lang.reflect.Modifier;
import java.nio.file.Files;
import java.nio.file.Path;
import java.util.HashMap;
import java.util.HashSet;
import java.util.Map;
import java.util.Set;
import java.util.regex.Matcher;
import java.util.regex.Pattern;

/** Goes through the examples of README.md line by line, and holds each answer against the one that is written there. */
public final class ReadmeTest {
    private static final Check t = new Check("ReadmeTest");
    private static final Pattern NEW = Pattern.compile("KitRows rows = new KitRows\\(\\);");
    private static final Pattern SIGNS =
            Pattern.compile("for \\(char c : \"(.*)\"\\.toCharArray\\(\\)\\) rows\\.sign\\(c\\);");
    private static final Pattern CALL = Pattern.compile(
            "(?:int (?<name>\\w+) = )?rows\\.(?<method>\\w+)\\((?<arguments>[^)]*)\\);(?: *// *(?<due>-?\\w+).*)?");

    private final Map<String, Object> values = new HashMap<>();
    private final Set<String> called = new HashSet<>();
    private KitRows rows;

    public static void main(String[] args) throws IOException, IllegalAccessException {
        ReadmeTest test = new ReadmeTest();
        boolean inExample = false;
        for (String line : Files.readAllLines(Path.of("README.md"))) {
            if (line.startsWith("```")) {
                inExample = line.equals("```java");
            } else if (inExample) {
                test.go(line);
            }
        }
        for (Method method : KitRows.class.getDeclaredMethods()) {
            if (Modifier.isPublic(method.getModifiers())) {
                t.due("an example calls " + method.getName(), test.called.contains(method.getName()) ? 1 : 0, 1);
            }
        }
        t.end();
    }

    private void go(String line) throws IllegalAccessException {
        Matcher signs = SIGNS.matcher(line);
        Matcher call = CALL.matcher(line);
        if (NEW.matcher(line).matches()) {
            rows = new KitRows();
            values.clear();
        } else if (signs.matches()) {
            called.add("sign");
            Check.signAll(rows, signs.group(1).replace("\\n", "\n"));
        } else if (call.matches()) {
            hold(line, call);
        } else {
            t.fail("not understood: " + line);
        }
    }

    private void hold(String line, Matcher call) throws IllegalAccessException {
        called.add(call.group("method"));
        Method method = methodOf(call.group("method"));
        Object answer;
        try {
            answer = method.invoke(rows, valuesOf(call.group("arguments")));
        } catch (InvocationTargetException e) {
            answer = e.getCause().getClass().getSimpleName();
        }
        if (answer != null) {
            String due = String.valueOf(call.group("due"));
            t.due(line + " answers " + answer + ":", due.equals(String.valueOf(answer)) ? 1 : 0, 1);
        } else {
            t.due(line + " answers nothing", method.getReturnType() == void.class ? 1 : 0, 1);
        }
        if (call.group("name") != null) {
            values.put(call.group("name"), answer);
        }
    }

    private static Method methodOf(String name) {
        for (Method method : KitRows.class.getMethods()) {
            if (method.getName().equals(name)) {
                return method;
            }
        }
        throw new AssertionError("no call " + name);
    }

    private Object[] valuesOf(String arguments) {
        if (arguments.isEmpty()) {
            return new Object[0];
        }
        String[] all = arguments.split(", ");
        Object[] found = new Object[all.length];
        for (int i = 0; i < all.length; i++) {
            found[i] = valueOf(all[i]);
        }
        return found;
    }

    private Object valueOf(String argument) {
        if (values.containsKey(argument)) {
            return values.get(argument);
        }
        if (argument.equals("true") || argument.equals("false")) {
            return Boolean.valueOf(argument);
        }
        return Integer.valueOf(argument);
    }
}
