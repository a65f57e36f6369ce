import java.io.IOException;
import java.nio.file.Files;
import java.nio.file.Path;

/**
 * The sentences of the document, each with a test of its own. A quotation that the document doesn't hold is wrong, and so
 * is a sentence of the document that nobody quotes: thus no boundary case is passed over.
 */
final class Sentences {
    private static final Path DOCUMENT = Path.of("../shared/DOC.md");
    private static final int PROMISES = 30;

    /** By the number of the promise; 0 is the description before the promises. */
    private final String[] parts = new String[PROMISES + 1];
    private final boolean[][] quoted = new boolean[PROMISES + 1][];
    private final boolean hasDocument = Files.isReadable(DOCUMENT);

    Sentences() throws IOException {
        StringBuilder[] texts = new StringBuilder[PROMISES + 1];
        for (int part = 0; part <= PROMISES; part++) {
            texts[part] = new StringBuilder();
        }
        if (hasDocument) {
            collect(texts);
        } else {
            System.out.println("there is no " + DOCUMENT + ": the quotations are not compared with it");
        }
        for (int part = 0; part <= PROMISES; part++) {
            parts[part] = texts[part].toString().replaceAll("\\s+", " ").trim();
            quoted[part] = new boolean[parts[part].length()];
        }
    }

    /** Leaves out the signatures and the examples, which FaceTest and ExamplesTest have. */
    private static void collect(StringBuilder[] texts) throws IOException {
        int part = -1;
        boolean inExamples = false;
        for (String line : Files.readAllLines(DOCUMENT)) {
            inExamples = line.startsWith("Examples (") || inExamples && !line.startsWith("The constants:");
            if (line.startsWith("## ")) {
                part = partOf(line.substring(3));
            } else if (part >= 0 && !inExamples && !line.startsWith("`")) {
                texts[part].append(line).append('\n');
            }
        }
    }

    private static int partOf(String heading) {
        if (heading.startsWith("Promise ")) {
            return Integer.parseInt(heading.substring("Promise ".length(), heading.indexOf(':')));
        }
        return heading.equals("What it is") || heading.equals("Description") ? 0 : -1;
    }

    /** The sentence stands under the promise, or in the description and shows by the promise. */
    void test(int promise, String sentence, Check.Call test) {
        quote(promise, sentence);
        int before = Check.wrongSoFar();
        Check.dueAnswer("a call", test);
        if (Check.wrongSoFar() != before) {
            System.out.println("BROKEN, promise " + promise + ": " + sentence);
        }
    }

    void namesNoBoundary(int promise, String... sentences) {
        for (String sentence : sentences) {
            quote(promise, sentence);
        }
    }

    private void quote(int promise, String sentence) {
        boolean found = mark(promise, sentence) || mark(0, sentence);
        Check.isTrue("promise " + promise + " says: " + sentence, found || !hasDocument);
    }

    private boolean mark(int part, String sentence) {
        boolean found = false;
        for (int at = parts[part].indexOf(sentence); at >= 0; at = parts[part].indexOf(sentence, at + 1)) {
            for (int i = at; i < at + sentence.length(); i++) {
                quoted[part][i] = true;
            }
            found = true;
        }
        return found;
    }

    void dueAllQuoted() {
        for (int part = 0; part <= PROMISES; part++) {
            StringBuilder rest = new StringBuilder();
            for (int i = 0; i < quoted[part].length; i++) {
                rest.append(quoted[part][i] ? '\n' : parts[part].charAt(i));
            }
            for (String piece : rest.toString().split("\n")) {
                Check.isTrue("part " + part + " of the document has a test for: " + piece.trim(), piece.isBlank());
            }
        }
    }
}
