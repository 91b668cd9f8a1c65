import java.io.IOException;
import java.lang.reflect.Method;
import java.nio.file.Files;
import java.nio.file.Path;
import java.util.ArrayList;
import java.util.Arrays;
import java.util.List;

/** Each test of a boundary quotes the document, and no word of its terms and promises is without a test that quotes it. */
public final class DocumentTest {
    private static final Check check = new Check();
    private static final Path DOCUMENT = Path.of("../shared/DOC.md");
    private static final Class<?>[] TESTS = {CardsBoundaryTest.class, TextsBoundaryTest.class, CountsBoundaryTest.class,
        ListsBoundaryTest.class, HoursBoundaryTest.class};
    private static final int PROMISES = 36;

    /** A piece of the document, and which of its signs are quoted by some test. */
    private static final class Piece {
        private final String text;
        private final boolean[] quoted;

        Piece(String text) {
            this.text = text;
            quoted = new boolean[text.length()];
        }

        boolean quote(String words) {
            boolean found = false;
            for (int at = text.indexOf(words); at >= 0; at = text.indexOf(words, at + 1)) {
                Arrays.fill(quoted, at, at + words.length(), true);
                found = true;
            }
            return found;
        }

        String unquoted() {
            StringBuilder rest = new StringBuilder();
            for (int at = 0; at < quoted.length; at++) {
                boolean tells = !quoted[at] && Character.isLetterOrDigit(text.charAt(at));
                if (tells) rest.append(text.charAt(at));
                else if (rest.length() > 0 && rest.charAt(rest.length() - 1) != ' ') rest.append(' ');
            }
            return rest.toString().trim();
        }
    }

    public static void main(String[] args) throws IOException {
        String document = plain(Files.readString(DOCUMENT));
        Piece terms = new Piece(terms(document));
        List<Piece> promises = new ArrayList<>();
        for (int number = 1; number <= PROMISES; number++) promises.add(new Piece(promise(document, number)));
        int[] tests = new int[PROMISES + 1];
        for (Class<?> one : TESTS) {
            for (Method test : Boundary.testsOf(one).values()) quote(test, terms, promises, tests);
        }
        for (int number = 1; number <= PROMISES; number++) {
            check.due("promise " + number + ": has tests", 1, tests[number] > 0 ? 1 : 0);
            noWordLeft("promise " + number, promises.get(number - 1));
        }
        noWordLeft("terms", terms);
        check.end("DocumentTest");
    }

    private static void quote(Method test, Piece terms, List<Piece> promises, int[] tests) {
        Says says = test.getAnnotation(Says.class);
        check.due(test.getName() + ": quotes the document", 1, says == null ? 0 : 1);
        if (says == null) return;
        check.due(test.getName() + ": is named after its promise", Integer.parseInt(test.getName().substring(7, 9)), says.promise());
        tests[says.promise()]++;
        for (String words : says.value()) {
            boolean inTerms = terms.quote(plain(words));
            boolean inPromise = promises.get(says.promise() - 1).quote(plain(words));
            check.due(test.getName() + ": the document says \"" + words + "\"", 1, inTerms || inPromise ? 1 : 0);
        }
    }

    private static void noWordLeft(String where, Piece piece) {
        String rest = piece.unquoted();
        check.due(where + ": words without a test \"" + rest + "\"", 0, rest.length());
    }

    /** Without fences, the numbers of parts and what is left between two lines. */
    private static String plain(String text) {
        return text.replace("```text", " ").replace("```", " ").replaceAll("==== \\d", " ").replaceAll("\\s+", " ");
    }

    private static String between(String text, String start, String end) {
        int from = text.indexOf(start);
        int to = text.indexOf(end, Math.max(from, 0));
        return from < 0 || to < 0 ? "" : text.substring(from, to);
    }

    private static String terms(String document) {
        return between(document, "COUNTIES are 0 to 4", "## The public face")
            .replaceAll("## [^.]*$", "") + between(document, "CARDS 0 to 39", "Ahead of the calls `card`");
    }

    private static String promise(String document, int number) {
        String section = between(document, "## Promise " + number + ":", number < PROMISES ? "## Promise " + (number + 1) + ":" : "## Not promised");
        return section.substring(Math.min(section.length(), section.indexOf("`: ") + 3));
    }
}
