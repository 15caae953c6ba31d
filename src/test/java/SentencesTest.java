import java.io.IOException;
import java.lang.reflect.Method;
import java.util.ArrayList;
import java.util.BitSet;
import java.util.List;
import java.util.regex.Matcher;
import java.util.regex.Pattern;

/** No sentence of the document that names a boundary case is without a test: each such word of it is quoted by one. */
public final class SentencesTest {
    private static final Class<?>[] EDGES = {
        Promises1To7EdgesTest.class, Promises8To11EdgesTest.class, Promises12To16EdgesTest.class,
        Promises17To20EdgesTest.class, Promises21To26EdgesTest.class, Terms1EdgesTest.class, Terms2EdgesTest.class,
        Terms3EdgesTest.class, Terms4And5EdgesTest.class};
    // What makes a sentence one of a boundary case: a number, a refusal, a bound, a rounding, an emptiness.
    private static final Pattern EDGE = Pattern.compile(
        "\\d+|NONE|false|likewise|can't|doing nothing|at most|at least|below|else|cut\\b|empty|[Nn]o |none|without|more than");

    public static void main(String[] args) throws IOException {
        String document = Edges.document();
        List<String> faults = new ArrayList<>();
        if (document.isEmpty()) {
            System.out.println("NOT LOOKED AT: there is no ../shared/DOC.md to be read");
        } else {
            int words = look(document, faults);
            System.out.println(words + " words of boundary cases, " + faults.size() + " without a test");
        }
        for (String fault : faults) {
            System.out.println(fault);
        }
        if (!faults.isEmpty()) {
            System.exit(1);
        }
    }

    private static int look(String document, List<String> faults) {
        int words = 0;
        for (int promise = 1; promise <= 26; promise++) {
            String name = "promise" + promise;
            String body = section(document, "## Promise " + promise + ":");
            // The name and the signature, which stand up to the first colon behind them, are no sentence.
            words += lookAt(name, body.substring(body.indexOf("`: ") + 3), quotes(name), faults);
        }
        String terms = section(document, "## Terms").replaceAll("==== \\d\\. ", "");
        words += lookAt("terms", terms, quotes(""), faults);
        return words;
    }

    private static String section(String document, String heading) {
        int from = document.indexOf(heading);
        int to = document.indexOf("\n## ", from);
        return document.substring(from, to);
    }

    private static List<String> quotes(String name) {
        List<String> quotes = new ArrayList<>();
        for (Class<?> edges : EDGES) {
            for (Method test : Edges.testsOf(edges)) {
                if (name.isEmpty() || test.getName().matches(name + "[^0-9].*")) {
                    quotes.add(test.getAnnotation(Says.class).value());
                }
            }
        }
        return quotes;
    }

    private static int lookAt(String name, String text, List<String> quotes, List<String> faults) {
        BitSet quoted = new BitSet();
        for (String quote : quotes) {
            for (int at = text.indexOf(quote); at >= 0; at = text.indexOf(quote, at + 1)) {
                quoted.set(at, at + quote.length());
            }
        }
        int words = 0;
        Matcher word = EDGE.matcher(text);
        while (word.find()) {
            words++;
            if (quoted.nextClearBit(word.start()) < word.end()) {
                String around = text.substring(Math.max(0, word.start() - 40), Math.min(text.length(), word.end() + 40));
                faults.add(name + ": no test quotes '" + word.group() + "' in '" + around.replace('\n', ' ') + "'");
            }
        }
        return words;
    }
}
