import java.io.IOException;
import java.lang.reflect.Method;
import java.nio.file.Files;
import java.nio.file.Path;
import java.util.ArrayList;
import java.util.Comparator;
import java.util.List;
import java.util.function.IntUnaryOperator;

/** Runs each method that bears @Says: a test of its own for a sentence of the document that names a boundary case. */
abstract class Edges {
    static final int NONE = StageCoaches.NONE;
    static final int MIN = Integer.MIN_VALUE;
    static final int MAX = Integer.MAX_VALUE;

    private final Checks checks = new Checks();
    private String test = "";

    final void runAll() throws ReflectiveOperationException, IOException {
        List<Method> tests = testsOf(getClass());
        String document = document();
        for (Method method : tests) {
            test = method.getName() + ": ";
            String words = method.getAnnotation(Says.class).value();
            due("the document says '" + words + "'", document.isEmpty() || document.contains(words), true);
            method.invoke(this);
        }
        System.out.println(tests.size() + " sentences");
        checks.finish();
    }

    static List<Method> testsOf(Class<?> edges) {
        List<Method> tests = new ArrayList<>();
        for (Method method : edges.getDeclaredMethods()) {
            if (method.isAnnotationPresent(Says.class)) {
                tests.add(method);
            }
        }
        tests.sort(Comparator.comparing(Method::getName));
        return tests;
    }

    /** Empty where there is none to be read. */
    static String document() throws IOException {
        Path path = Path.of("../shared/DOC.md");
        return Files.isReadable(path) ? Files.readString(path) : "";
    }

    final void due(String call, long got, long want) {
        checks.due(test + call, got, want);
    }

    final void due(String call, boolean got, boolean want) {
        checks.due(test + call, got, want);
    }

    /** The answers to 0, 1, 2 and so on. */
    final void row(String what, int[] want, IntUnaryOperator ask) {
        for (int i = 0; i < want.length; i++) {
            due(what + " " + i, ask.applyAsInt(i), want[i]);
        }
    }

    final void same(String what, String got, String want) {
        due(what, got.equals(want), true);
        String[] rows = want.split("\n");
        String[] others = got.split("\n");
        for (int i = 0; i < Math.min(rows.length, others.length); i++) {
            if (!rows[i].equals(others[i])) {
                System.out.println("  got [" + others[i] + "] and not [" + rows[i] + "]");
            }
        }
    }

    /** A call that is refused: it gives that answer, and neither now nor later does anything show of it. */
    final void refuses(Story story, String name, Object answer, Story.Call call) {
        StageCoaches with = story.tell();
        due(name + " is refused by " + answer, call.on(with).equals(answer), true);
        same(name + " does nothing", Story.look(with), Story.look(story.tell()));
        StageCoaches later = story.tell();
        call.on(later);
        same(name + " does nothing later", Story.future(later), Story.future(story.tell()));
    }

    /** A number in a call that can be from low to high, and nothing below or above. */
    final void ranges(Story story, String name, int low, int high, Object refusal, Story.CallWith call) {
        for (int value : new int[] {low, high}) {
            due(name + " " + value + " is not refused", call.on(story.tell(), value).equals(refusal), false);
        }
        for (int value : new int[] {low - 1, high + 1, MIN, MAX}) {
            refuses(story, name + " " + value, refusal, x -> call.on(x, value));
        }
    }
}
