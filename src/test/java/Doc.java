import java.io.IOException;
import java.nio.file.Files;
import java.nio.file.Path;
import java.util.Map;
import java.util.TreeMap;

/**
 * The document's sentences, so that each test can say which one it is a test of. At the end
 * every sentence of the Terms and of the promises must have been said: one without a test fails.
 */
final class Doc {
    static final int TERMS = 0;
    static final int PROMISES = 39;

    /** By promise, the Terms being 0: what no test has said yet. */
    private static final Map<Integer, String> LEFT = new TreeMap<>();

    private Doc() {
    }

    static void load(Path file) throws IOException {
        String text = Files.readString(file);
        // From "Ahead of the calls" on the Terms only name the parts of the interface.
        LEFT.put(TERMS, plain(between(text, "## Terms", "Ahead of the calls")));
        for (int promise = 1; promise <= PROMISES; promise++) {
            String section = between(text, "## Promise " + promise + ":", "\n## ");
            int signature = section.indexOf("`: ");
            Due.isSo("promise " + promise + " has a signature", signature >= 0);
            LEFT.put(promise, plain(section.substring(signature + 3)));
        }
    }

    private static String between(String text, String from, String to) {
        int start = text.indexOf(from);
        int end = text.indexOf(to, Math.max(0, start) + from.length());
        Due.isSo("the document has " + from.trim(), start >= 0 && end > start);
        return text.substring(start + from.length(), end);
    }

    private static String plain(String text) {
        return text.replace("```text", " ").replace("```", " ").replaceAll("\\s+", " ").trim();
    }

    /** The tests that follow are of this sentence, or part of one. */
    static void says(int promise, String sentence) {
        String left = LEFT.getOrDefault(promise, "");
        int at = left.indexOf(sentence);
        Due.about(promise == TERMS ? "Terms" : "Promise " + promise);
        Due.isSo("the document says, not yet tested: " + sentence, at >= 0);
        if (at >= 0) {
            LEFT.put(promise, left.substring(0, at) + "|" + left.substring(at + sentence.length()));
        }
        Due.about((promise == TERMS ? "Terms: " : "Promise " + promise + ": ") + sentence);
    }

    static void end() {
        Due.about("Sentences");
        for (Map.Entry<Integer, String> left : LEFT.entrySet()) {
            for (String piece : left.getValue().split("\\|")) {
                boolean isTested = piece.chars().noneMatch(Character::isLetter);
                Due.isSo("part " + left.getKey() + " has a test of: " + piece.trim(), isTested);
            }
        }
    }
}
