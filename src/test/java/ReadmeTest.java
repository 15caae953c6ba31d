import java.io.IOException;
import java.lang.reflect.Method;
import java.nio.file.Files;
import java.nio.file.Path;
import java.util.List;
import java.util.regex.Matcher;
import java.util.regex.Pattern;
import java.util.stream.Stream;

/** README.md: its calls have the answers that stand behind them, and it leaves out no method and no test. */
public final class ReadmeTest {
    private static final Pattern CALL = Pattern.compile("office\\.(\\w+)\\((.*)\\);\\s+// (-?\\d+|true|false)(:.*)?");
    private static final Checks CHECKS = new Checks();

    public static void main(String[] args) throws IOException, ReflectiveOperationException {
        String readme = Files.readString(Path.of("README.md"));
        int calls = playCalls(readme);
        CHECKS.due("README.md has calls", calls > 0, true);
        nameMethods(readme);
        nameTests(readme);
        CHECKS.finish();
    }

    /** All java blocks are one story, told of one object. */
    private static int playCalls(String readme) throws ReflectiveOperationException {
        StageCoaches office = new StageCoaches();
        Matcher blocks = Pattern.compile("(?s)```java\n(.*?)```").matcher(readme);
        int calls = 0;
        while (blocks.find()) {
            for (String line : blocks.group(1).split("\n")) {
                if (line.equals("StageCoaches office = new StageCoaches();")) {
                    continue;
                }
                Matcher call = CALL.matcher(line);
                CHECKS.due("README.md tells the answer of " + line, call.matches(), true);
                if (call.matches()) {
                    String got = answer(office, call.group(1), call.group(2));
                    CHECKS.due(line + " (answered " + got + ")", got.equals(call.group(3)), true);
                    calls++;
                }
            }
        }
        return calls;
    }

    private static String answer(StageCoaches office, String name, String list) throws ReflectiveOperationException {
        String[] words = list.isEmpty() ? new String[0] : list.split(", ");
        for (Method method : StageCoaches.class.getMethods()) {
            if (method.getName().equals(name) && method.getParameterCount() == words.length) {
                Object[] values = new Object[words.length];
                for (int i = 0; i < words.length; i++) {
                    boolean isInt = method.getParameterTypes()[i] == int.class;
                    values[i] = isInt ? (Object) Long.decode(words[i]).intValue() : (Object) Boolean.valueOf(words[i]);
                }
                return String.valueOf(method.invoke(office, values));
            }
        }
        return "no such method";
    }

    private static void nameMethods(String readme) {
        for (Method method : StageCoaches.class.getDeclaredMethods()) {
            if (java.lang.reflect.Modifier.isPublic(method.getModifiers())) {
                String name = method.getName();
                CHECKS.due("README.md says what " + name + " does", readme.contains("`" + name + "`"), true);
            }
        }
    }

    private static void nameTests(String readme) throws IOException {
        List<Path> files;
        try (Stream<Path> all = Files.list(Path.of("src/test/java"))) {
            files = all.filter(file -> file.toString().endsWith("Test.java")).toList();
        }
        for (Path file : files) {
            String name = file.getFileName().toString().replace(".java", "");
            CHECKS.due("README.md names " + name, readme.contains("`" + name + "`"), true);
        }
    }
}
