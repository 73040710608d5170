import java.io.IOException;
import java.nio.file.Files;
import java.nio.file.Path;
import java.util.Arrays;

/**
 * Each sentence of the document that names a boundary case, with a test of its own: the last value that is taken
 * and the first that is not, the empty and the full, and what follows a refused call.
 */
public final class BoundariesTest {
    private static final Path DOCUMENT = Path.of("../shared/DOC.md");

    public static void main(String[] args) throws IOException {
        new TextBoundaries().go();
        new DayBoundaries().go();
        new AskedBoundaries().go();
        lastCall();
        if (Files.exists(DOCUMENT)) {
            wholeDocument(Files.readString(DOCUMENT));
        }
        System.out.println("BoundariesTest: " + Boundaries.SENTENCES.size() + " sentences, " + Boundaries.asked + " answers, "
            + Boundaries.wrong + " wrong");
        if (Boundaries.wrong != 0) {
            System.exit(1);
        }
    }

    private static void wrong(String what) {
        Boundaries.wrong++;
        System.out.println(what);
    }

    /** "An object is used for at most 512 calls after it has been made": the 512th is answered as the first. */
    private static void lastCall() {
        SweptSnow x = new SweptSnow();
        for (int i = 0; i < 511; i++) {
            x.seed(i + 1);
        }
        Boundaries.asked++;
        if (x.seed(0) != 511) {
            wrong("the 512th call is not answered");
        }
    }

    /** Each word of the terms and promises stands in a sentence that was tested, and each sentence in the document. */
    private static void wholeDocument(String document) {
        String terms = promised(document);
        boolean[] held = new boolean[terms.length()];
        for (String sentence : Boundaries.SENTENCES) {
            int at = terms.indexOf(sentence);
            if (at < 0) {
                wrong("not in the document: " + sentence);
            }
            while (at >= 0) {
                Arrays.fill(held, at, at + sentence.length(), true);
                at = terms.indexOf(sentence, at + 1);
            }
        }
        StringBuilder left = new StringBuilder();
        for (int i = 0; i < held.length; i++) {
            left.append(held[i] ? '\n' : terms.charAt(i));
        }
        for (String words : left.toString().split("\n+")) {
            if (words.matches(".*[A-Za-z0-9].*")) {
                wrong("no test holds to: " + words);
            }
        }
    }

    /** The terms and what is promised, in one line, without headings, numbers of parts and the heads of methods. */
    private static String promised(String document) {
        int from = document.indexOf("## Terms");
        int to = document.indexOf("## Not promised");
        String part = document.substring(Math.max(0, from), to < 0 ? document.length() : to);
        return part.replaceAll("(?m)^#.*$|^```.*$|^`[^`]*`: |^==== I+\\. ", " ")
            .replaceAll("(?m)^The constants: .*$", " ").replaceAll("\\s+", " ");
    }
}
