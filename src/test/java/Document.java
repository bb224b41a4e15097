import java.io.IOException;
import java.nio.file.Files;
import java.nio.file.Path;

/**
 * The document, read from its first line: what is quoted must come next in it, so that no sentence is
 * left out, and behind each sentence answers must be held before the next one is quoted.
 */
final class Document {
    private static final Path PLACE = Path.of("../shared/DOC.md");

    /** Whether the document is there; without it the answers alone are held. */
    private static boolean isHere = false;
    private static String left = "";
    private static String sentence = "";
    private static boolean owes = false;
    private static int heldAhead = 0;

    private Document() {
    }

    static void open() throws IOException {
        isHere = Files.exists(PLACE);
        if (!isHere) {
            System.out.println(PLACE + " is not here: answers are held, but not whether a sentence is left out");
            return;
        }
        StringBuilder text = new StringBuilder();
        for (String line : Files.readAllLines(PLACE)) {
            text.append(line.startsWith("```") ? "" : line).append(' ');
        }
        left = text.toString().replaceAll("\\s+", " ").trim();
    }

    /** Words that promise nothing by themselves come next. */
    static void heads(String quoted) {
        takeNext(quoted);
        owes = false;
    }

    /** A sentence comes next; answers that hold it follow. */
    static void says(String quoted) {
        takeNext(quoted);
        owes = true;
        heldAhead = Due.held();
    }

    /** What comes next, up to these words and with them; nothing, if the document is not there. */
    static String takeUntil(String last) {
        if (!isHere) {
            return "";
        }
        int end = left.indexOf(last);
        String taken = end < 0 ? left : left.substring(0, end + last.length());
        says(taken);
        return taken;
    }

    static void end(String next) {
        takeNext(next);
    }

    private static void takeNext(String quoted) {
        boolean wasHeld = !owes || Due.held() > heldAhead;
        Due.due("answers are held for: " + sentence, wasHeld ? 1 : 0, 1);
        sentence = quoted;
        if (!isHere) {
            return;
        }
        int found = left.indexOf(quoted);
        Due.due("comes next in the document: " + quoted, found, 0);
        if (found >= 0) {
            left = left.substring(found + quoted.length()).trim();
        }
    }

    static void due(String call, long got, long want) {
        Due.due("[" + sentence + "] " + call, got, want);
    }

    static void holds(String what, boolean held) {
        due(what, held ? 1 : 0, 1);
    }

    /** The call is refused so, and nothing has changed. */
    static void refused(NobodyChecks x, String call, Edge.Call does, long want) {
        long before = x.digest();
        due(call, does.on(x), want);
        due(call + ", refused, changes nothing", x.digest(), before);
    }
}
