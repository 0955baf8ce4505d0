import java.io.IOException;
import java.lang.reflect.Method;
import java.nio.file.Files;
import java.nio.file.Path;

/**
 * The document's Terms, sentence by sentence (src/test/sentences.txt): none is left out, each stands there as the document
 * has it, and each names tests that are there and hold it.
 */
public final class SentencesTest {
    private static final Check C = new Check("SentencesTest");
    private static final Path DOCUMENT = Path.of("../shared/DOC.md");
    private static final Path SENTENCES = Path.of("src/test/sentences.txt");
    private static final String FIRST = "==== 1. TRAYS";
    private static final String BEHIND_THE_LAST = "Ahead of the calls `tray`";

    public static void main(String[] args) throws IOException {
        none();
        StringBuilder quoted = new StringBuilder();
        String sentence = "";
        int tests = 1;
        for (String line : Files.readAllLines(SENTENCES)) {
            if (line.startsWith("> ")) {
                boolean goesOn = tests == 0;
                sentence = goesOn ? sentence + " " + line.substring(2) : line.substring(2);
                quoted.append(line.substring(2)).append(' ');
                tests = 0;
            } else {
                for (String test : line.trim().split(" ")) {
                    isThere(sentence, test);
                    tests++;
                }
            }
        }
        C.due("the last sentence has a test", tests > 0, true);
        isTheDocument(quoted.toString().trim());
        C.finish();
    }

    static void none() {
        C.due("NONE", KneeBench.NONE, -1);
    }

    private static void isThere(String sentence, String test) {
        int dot = test.indexOf('.');
        boolean isThere = false;
        try {
            for (Method m : Class.forName(test.substring(0, Math.max(0, dot))).getDeclaredMethods()) {
                isThere |= m.getName().equals(test.substring(dot + 1));
            }
        } catch (ClassNotFoundException e) {
            isThere = false;
        }
        C.due("the test " + test + " of '" + sentence + "' is there", isThere, true);
    }

    private static void isTheDocument(String quoted) throws IOException {
        String document = Files.readString(DOCUMENT);
        int from = document.indexOf(FIRST);
        int to = document.indexOf(BEHIND_THE_LAST);
        C.due("the document has its Terms", from >= 0 && to > from, true);
        if (from < 0 || to < from) {
            return;
        }
        String terms = document.substring(from, to).replace("```text", " ").replace("```", " ").trim()
                .replaceAll("\\s+", " ");
        int same = 0;
        while (same < Math.min(terms.length(), quoted.length()) && terms.charAt(same) == quoted.charAt(same)) {
            same++;
        }
        boolean isSame = same == terms.length() && same == quoted.length();
        C.due("sentences.txt says what the document says up to '" + terms.substring(Math.max(0, same - 60), same) + "'", isSame,
                true);
    }
}
