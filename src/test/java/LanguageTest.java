import java.io.IOException;
import java.lang.reflect.Constructor;
import java.lang.reflect.Field;
import java.lang.reflect.Method;
import java.lang.reflect.Modifier;
import java.nio.file.Files;
import java.nio.file.Path;
import java.util.ArrayList;
import java.util.HashSet;
import java.util.List;
import java.util.Set;
import java.util.TreeSet;
import java.util.regex.Matcher;
import java.util.regex.Pattern;

/** The rules of LANGUAGE.md that a plain look at the program can tell. */
public final class LanguageTest {
    private static final String[] FACE = {
        "int stage(int,int,int)", "boolean first(int,int,int)", "boolean mud(int,int)", "boolean oats(int,int)",
        "int team(int,int)", "int coach(int,int,int,int,int)", "int feed(int,int,int,int,int)", "int end(int)",
        "int orders()", "int fault(int)", "int run(int)", "int where(int,int)", "int part(int,int)",
        "int told(int,int)", "int horses(int,int)", "int trip(int,boolean,int)", "int clear()",
        "boolean behind(int,int,int)", "int fewest(int)", "int book(int,int,int)", "boolean untell(int)",
        "int free(int,int,int)", "int parted(int,int)", "int about(int)", "int road(int,int)"};
    private static final String[] BARRED = {
        "throw", "throws", "try", "catch", "finally", "synchronized", "assert", "import", "package", "protected",
        "double", "float", "System", "Object", "Exact", "lambda", "new Random", "->", "::"};

    public static void main(String[] args) throws IOException {
        List<String> faults = new ArrayList<>();
        face(faults);
        classesInside(faults);
        barredWords(faults);
        methodLengths(faults);
        madeInConstructors(faults);
        for (String fault : faults) {
            System.out.println(fault);
        }
        if (!faults.isEmpty()) {
            System.exit(1);
        }
        System.out.println("the program keeps to the rules looked at");
    }

    private static void face(List<String> faults) {
        Set<String> open = new TreeSet<>();
        Set<String> names = new HashSet<>();
        for (Method method : StageCoaches.class.getDeclaredMethods()) {
            if (!Modifier.isPrivate(method.getModifiers()) && !method.isSynthetic()) {
                open.add(signature(method));
                names.add(method.getName());
            }
        }
        if (!open.equals(new TreeSet<>(List.of(FACE)))) {
            faults.add("the face is not the document's: " + open);
        }
        for (Method method : StageCoaches.class.getDeclaredMethods()) {
            if (Modifier.isPrivate(method.getModifiers()) && names.contains(method.getName())) {
                faults.add("a private method bears a public name: " + method);
            }
        }
        for (Field field : StageCoaches.class.getDeclaredFields()) {
            boolean isConstant = field.getName().equals("NONE") && Modifier.isPublic(field.getModifiers());
            if (!isConstant && !Modifier.isPrivate(field.getModifiers())) {
                faults.add("a field is not private: " + field);
            }
        }
        Constructor<?>[] constructors = StageCoaches.class.getDeclaredConstructors();
        if (constructors.length != 1 || !Modifier.isPublic(constructors[0].getModifiers())) {
            faults.add("not just one public constructor");
        }
    }

    private static String signature(Method method) {
        StringBuilder text = new StringBuilder();
        text.append(method.getReturnType().getName()).append(' ').append(method.getName()).append('(');
        for (int i = 0; i < method.getParameterCount(); i++) {
            text.append(i == 0 ? "" : ",").append(method.getParameterTypes()[i].getName());
        }
        return text.append(')').toString();
    }

    private static void classesInside(List<String> faults) {
        Class<?>[] inside = StageCoaches.class.getDeclaredClasses();
        if (inside.length > 11) {
            faults.add("too many classes: " + inside.length);
        }
        for (Class<?> one : inside) {
            if (!Modifier.isStatic(one.getModifiers()) || Modifier.isPublic(one.getModifiers())) {
                faults.add("a class inside is not static, or public: " + one);
            }
            int fields = 0;
            for (Field field : one.getDeclaredFields()) {
                boolean isStatic = Modifier.isStatic(field.getModifiers());
                fields += isStatic ? 0 : 1;
                if (isStatic && !Modifier.isFinal(field.getModifiers())) {
                    faults.add("a static field is not final: " + field);
                }
            }
            if (fields > 20) {
                faults.add("too many fields: " + one);
            }
        }
    }

    private static String program() throws IOException {
        String text = Files.readString(Path.of("src/main/java/StageCoaches.java"));
        return text.replaceAll("(?s)/\\*.*?\\*/", " ").replaceAll("//[^\\n]*", " ");
    }

    private static void barredWords(List<String> faults) throws IOException {
        String text = program();
        for (String word : BARRED) {
            boolean isWord = Character.isLetter(word.charAt(0));
            String pattern = isWord ? "\\b" + word + "\\b" : Pattern.quote(word);
            Matcher matcher = Pattern.compile(pattern).matcher(text);
            if (matcher.find()) {
                faults.add("the program has: " + word);
            }
        }
    }

    private static void methodLengths(List<String> faults) throws IOException {
        String[] lines = Files.readString(Path.of("src/main/java/StageCoaches.java")).split("\n");
        for (String indent : new String[] {"    ", "        "}) {
            int from = -1;
            for (int i = 0; i < lines.length; i++) {
                if (lines[i].matches(indent + "[a-zA-Z].*\\) \\{") && !lines[i].contains(" class ")) {
                    from = i;
                } else if (lines[i].equals(indent + "}") && from >= 0) {
                    if (i - from > 60) {
                        faults.add("a long method at line " + (from + 1));
                    }
                    from = -1;
                }
            }
        }
    }

    /** What a run makes is counted: only coach, which can do so eight times, makes anything but a constructor. */
    private static void madeInConstructors(List<String> faults) throws IOException {
        Pattern head = Pattern.compile(" {4,8}((?:\\w+ )*)(\\w+)\\([^;]*\\) \\{");
        boolean free = false;
        for (String line : program().split("\n")) {
            Matcher matcher = head.matcher(line);
            if (matcher.matches() && !line.contains(" class ")) {
                String before = matcher.group(1).trim();
                boolean isConstructor = before.isEmpty() || before.equals("public");
                free = isConstructor || matcher.group(2).equals("coach");
            }
            if (line.matches(".*\\bnew\\b.*") && !free) {
                faults.add("made outside of a constructor: " + line.trim());
            }
        }
    }
}
