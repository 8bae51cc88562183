import java.io.IOException;
import java.lang.reflect.InvocationTargetException;
import java.lang.reflect.Method;
import java.nio.file.Files;
import java.nio.file.Path;
import java.util.ArrayList;
import java.util.List;
import java.util.Set;
import java.util.TreeSet;
import java.util.regex.Matcher;
import java.util.regex.Pattern;

/** What README.md shows of the class is so: each call of its example is made, and gives the answer told behind it. */
final class ReadmeTest {
    private static final Checks CHECKS = new Checks();
    private static final Pattern BLOCK = Pattern.compile("```java\n(.*?)```", Pattern.DOTALL);
    private static final Pattern NEW = Pattern.compile("KelpShores x = new KelpShores\\(\\);");
    private static final Pattern TEXT = Pattern.compile("feedText\\(x, \"([^\"]*)\"\\);");
    private static final Pattern CALL = Pattern.compile("x\\.(\\w+)\\(([^)]*)\\); *// *(\\S+).*");

    private KelpShores x;
    private final Set<String> called = new TreeSet<>();

    public static void main(String[] args) throws IOException, ReflectiveOperationException {
        String readme = Files.readString(Path.of("README.md"));
        List<String> blocks = new ArrayList<>();
        for (Matcher each = BLOCK.matcher(readme); each.find(); ) {
            blocks.add(each.group(1));
        }
        CHECKS.due("blocks of Java: the example, and how a text comes on the tape", blocks.size(), 2);
        ReadmeTest test = new ReadmeTest();
        for (String line : blocks.get(0).split("\n")) {
            test.follow(line.strip());
        }
        String scenes = Files.readString(Path.of("src/test/java/Scenes.java"));
        CHECKS.due("feedText is that of the tests", oneLine(scenes).contains(oneLine(blocks.get(1))), true);
        test.everyMethodIsShown(readme);
        CHECKS.close();
    }

    private void follow(String line) throws ReflectiveOperationException {
        Matcher text = TEXT.matcher(line);
        Matcher call = CALL.matcher(line);
        if (NEW.matcher(line).matches()) {
            x = new KelpShores();
        } else if (text.matches()) {
            Scenes.feedText(x, text.group(1));
        } else if (call.matches()) {
            called.add(call.group(1));
            CHECKS.due(line, answer(methodOf(call.group(1)), call.group(2)), call.group(3).replaceAll("[:,]$", ""));
        } else {
            CHECKS.due("a line that is no call: " + line, line.isEmpty() || line.startsWith("//"), true);
        }
    }

    private String answer(Method method, String written) throws ReflectiveOperationException {
        String[] words = written.isEmpty() ? new String[0] : written.split(", *");
        Object[] values = new Object[words.length];
        for (int i = 0; i < words.length; i++) {
            values[i] = method.getParameterTypes()[i] == boolean.class ? (Object) Boolean.valueOf(words[i])
                    : Integer.valueOf(words[i]);
        }
        try {
            Object answer = method.invoke(x, values);
            return method.getReturnType() == void.class ? "nothing" : String.valueOf(answer);
        } catch (InvocationTargetException e) {
            return e.getCause().getClass().getSimpleName();
        }
    }

    private static Method methodOf(String name) {
        for (Method each : KelpShores.class.getDeclaredMethods()) {
            if (each.getName().equals(name)) {
                return each;
            }
        }
        throw new AssertionError("the class has no method " + name);
    }

    private void everyMethodIsShown(String readme) {
        String rows = String.join("\n", readme.lines().filter(line -> line.startsWith("| `")).toList());
        for (Method each : KelpShores.class.getMethods()) {
            if (each.getDeclaringClass() == KelpShores.class) {
                CHECKS.due(each.getName() + " has its row", rows.contains("| `" + each.getName() + "("), true);
                boolean feeds = each.getName().equals("feed") || each.getName().equals("end");
                CHECKS.due(each.getName() + " is in the example", feeds || called.contains(each.getName()), true);
            }
        }
    }

    private static String oneLine(String code) {
        return code.replaceAll("\\s+", " ").strip();
    }
}
