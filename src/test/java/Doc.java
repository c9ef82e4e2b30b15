import java.io.IOException;
import java.nio.file.Files;
import java.nio.file.Path;
import java.util.ArrayList;
import java.util.List;

/**
 * The sentences of ../shared/DOC.md that tests hold. Each is quoted as it stands there; at the end it is looked up,
 * and what no test has quoted is a fault too: so no sentence of the terms and promises goes without a test.
 */
final class Doc {
    private static final Path DOC = Path.of("../shared/DOC.md");

    private static final List<String> QUOTES = new ArrayList<>();
    private static String sentence = "";
    private static int askedBefore = 0;

    private Doc() {
    }

    /** The checks from here to the next sentence are of this one. */
    static void says(String quote) {
        endSentence();
        sentence = quote;
        QUOTES.add(quote);
    }

    static String sentenceInBrackets() {
        return sentence.isEmpty() ? "" : " [" + sentence + "]";
    }

    private static void endSentence() {
        if (!sentence.isEmpty() && Due.asked() == askedBefore) {
            Due.holds("a check", false);
        }
        askedBefore = Due.asked();
    }

    /** Every quote stands in the document, and every sentence of it is quoted. */
    static void end() throws IOException {
        endSentence();
        sentence = "";
        if (!Files.exists(DOC)) {
            System.out.println("no " + DOC + " here: the quotes are not looked up");
            return;
        }
        String whole = Files.readString(DOC);
        String text = promised(whole);
        boolean[] quoted = new boolean[text.length()];
        for (String quote : QUOTES) {
            Due.holds("quoted as it stands: " + quote, oneLine(whole).contains(quote));
            for (int at = text.indexOf(quote); at >= 0; at = text.indexOf(quote, at + 1)) {
                java.util.Arrays.fill(quoted, at, at + quote.length(), true);
            }
        }
        lookForGaps(text, quoted);
        System.out.println(QUOTES.size() + " sentences of the document");
    }

    private static void lookForGaps(String text, boolean[] quoted) {
        StringBuilder gap = new StringBuilder();
        for (int i = 0; i <= text.length(); i++) {
            if (i < text.length() && !quoted[i]) {
                gap.append(text.charAt(i));
                continue;
            }
            if (gap.toString().matches(".*[A-Za-z0-9].*")) {
                Due.holds("a test of: " + gap.toString().trim(), false);
            }
            gap.setLength(0);
        }
    }

    /** The terms and promises alone, without headings, marks, and the calls' types. */
    private static String promised(String whole) {
        int from = whole.indexOf("## Terms");
        int to = whole.indexOf("## Not promised");
        StringBuilder text = new StringBuilder();
        for (String line : whole.substring(Math.max(0, from), to < 0 ? whole.length() : to).split("\n")) {
            if (!line.startsWith("##") && !line.startsWith("```") && !line.startsWith("Ahead of the calls")) {
                text.append(line.replaceAll("^`[^`]*`: ", "").replaceAll("=+ [0-9]", "")).append('\n');
            }
        }
        return oneLine(text.toString());
    }

    private static String oneLine(String text) {
        return text.replaceAll("\\s+", " ");
    }
}
