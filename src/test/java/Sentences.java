import java.io.IOException;
import java.nio.file.Files;
import java.nio.file.Path;
import java.util.LinkedHashMap;
import java.util.Map;

/** The sections of the document, and what of them the tests of the edges have not taken up yet. */
final class Sentences {
    private static final Path DOCUMENT = Path.of("..", "shared", "DOC.md");
    /** FaceTest holds the class against them. */
    private static final String SIGNATURE = "^`[^`]*\\([^`]*`: ?";
    private static final Map<String, String> WHOLE = new LinkedHashMap<>();
    private static final Map<String, String> LEFT = new LinkedHashMap<>();
    private static int askedBefore = -1;

    private Sentences() {
    }

    /** From "Terms" to the last promise: what is behind and ahead of them promises nothing. */
    static void read() throws IOException {
        String section = "";
        for (String line : Files.readAllLines(DOCUMENT)) {
            if (line.startsWith("#")) {
                section = line.replaceFirst("^#+ ", "").replaceFirst(":.*", "");
            } else {
                String words = line.replaceFirst("^(- |[1-7]\\. )", "").replaceFirst(SIGNATURE, "");
                WHOLE.merge(section, words + " ", String::concat);
            }
        }
        WHOLE.keySet().removeIf(name -> !isPromised(name));
        LEFT.putAll(WHOLE);
    }

    private static boolean isPromised(String section) {
        switch (section) {
            case "Terms":
            case "Parts":
            case "Winders":
            case "A minute":
            case "Input text":
            case "Undo":
            case "Exceptions":
                return true;
            default:
                return section.startsWith("Promise ");
        }
    }

    /** What is asked from now on is asked for these words, which must stand in this section. */
    static void about(String section, String words) {
        endOfSentence();
        takeUp(section, words);
        Check.about(section + ": " + words);
        askedBefore = Check.asked();
    }

    /** These words name no edge that is not told by another sentence. */
    static void noEdge(String section, String words) {
        endOfSentence();
        takeUp(section, words);
    }

    private static void takeUp(String section, String words) {
        Check.about(section);
        String whole = WHOLE.getOrDefault(section, "");
        if (!whole.contains(words)) {
            Check.isTrue("the document says: " + words, false);
        }
        String left = LEFT.getOrDefault(section, "");
        int at = left.indexOf(words);
        if (at >= 0) {
            LEFT.put(section, left.substring(0, at) + "|" + left.substring(at + words.length()));
        }
    }

    private static void endOfSentence() {
        if (askedBefore >= 0) {
            Check.isTrue("something is asked for this sentence", Check.asked() > askedBefore);
        }
        askedBefore = -1;
    }

    static void allAreTakenUp() {
        endOfSentence();
        Check.about("");
        for (Map.Entry<String, String> section : LEFT.entrySet()) {
            String left = section.getValue().replaceAll("[| ]+", " ").strip();
            Check.isTrue(section.getKey() + ": all is taken up, but for: " + left, left.isEmpty());
        }
        Check.same("sections", WHOLE.size(), 7 + 28);
    }
}
