import java.io.IOException;
import java.nio.file.Files;
import java.nio.file.Path;
import java.util.Map;

/**
 * What the tests of boundary cases share: each asks about one sentence of the document, which must
 * stand there as it is quoted, and on both sides: the last that is still so, the first that no
 * longer is.
 */
final class Boundary {
    /** Far from all numbers that there are; times 100 or 10 some wrap around to small ones. */
    static final int[] FAR = {-1, -2, -10, -100, -1000, 1000, 1001, 65536, 42949673, 429496730,
        -42949673, Integer.MIN_VALUE, Integer.MIN_VALUE + 1, Integer.MAX_VALUE,
        Integer.MAX_VALUE - 1};

    private static final Path DOCUMENT = Path.of("..", "shared", "DOC.md");
    // Where the Terms begin; each ends where the next begins.
    private static final Map<String, String[]> TERMS = Map.of(
        "Use", new String[] {"## What it is", "## The public face"},
        "Term I", new String[] {"I. BOUNDS.", "II. TEXTS"},
        "Term II", new String[] {"II. TEXTS", "III. LAYERS"},
        "Term III", new String[] {"III. LAYERS", "IV. GO"},
        "Term IV", new String[] {"IV. GO", "V. TROUBLE"},
        "Term V", new String[] {"V. TROUBLE", "Ahead of the calls"});

    private static String document = "";
    private static String sentence = "";
    private static int sentences = 0;
    private static int askedWithin = 0;
    private static int askedBeyond = 0;

    private Boundary() {
    }

    /** Begins a sentence of "Promise n", of "Term I" to "Term V" or of "Use". */
    static void of(String place, String words) {
        close();
        sentence = place + ", \"" + words + "\"";
        sentences++;
        Checks.due(sentence + " stands in the document", part(place).contains(plain(words)), true);
    }

    /** An answer on the side where it is still so. */
    static void still(String what, long got, long want) {
        askedWithin++;
        Checks.due(sentence + ": still " + what, got, want);
    }

    static void still(String what, boolean got, boolean want) {
        still(what, got ? 1 : 0, want ? 1 : 0);
    }

    /** An answer on the side where it is no longer so. */
    static void beyond(String what, long got, long want) {
        askedBeyond++;
        Checks.due(sentence + ": beyond " + what, got, want);
    }

    static void beyond(String what, boolean got, boolean want) {
        beyond(what, got ? 1 : 0, want ? 1 : 0);
    }

    /** A text that is still taken; the court that was told it. */
    static RuleCourt told(RuleCourt court, String text, int clauses) {
        still("tell of [" + text + "]", Checks.tell(court, text), clauses);
        still("fault of [" + text + "]", court.fault(), 0);
        still("where of [" + text + "]", court.where(), -1);
        return court;
    }

    /** A text that is refused; the court stays as it was. */
    static RuleCourt refused(RuleCourt court, String text, int fault, int place) {
        int[] before = counts(court);
        beyond("tell of [" + text + "]", Checks.tell(court, text), -1);
        beyond("fault of [" + text + "]", court.fault(), fault);
        beyond("where of [" + text + "]", court.where(), place);
        int[] after = counts(court);
        for (int what = 0; what < 5; what++) {
            beyond("count " + what + " behind [" + text + "]", after[what], before[what]);
        }
        return court;
    }

    /** THINGS, KINDS, RULES, FACTS and LAYERS. */
    private static int[] counts(RuleCourt court) {
        return new int[] {court.count(0), court.count(1), court.count(2), court.count(3),
            court.count(5)};
    }

    static void end(String test) {
        close();
        System.out.println(test + ": " + sentences + " sentences");
        Checks.end(test);
    }

    private static void close() {
        if (!sentence.isEmpty()) {
            Checks.due(sentence + " is asked on the side where it is so", askedWithin > 0, true);
            Checks.due(sentence + " is asked on the other side", askedBeyond > 0, true);
        }
        askedWithin = 0;
        askedBeyond = 0;
    }

    private static String part(String place) {
        String all = document();
        String[] ends = TERMS.get(place);
        if (ends == null) {
            ends = new String[] {"## " + place + ":", "## "};
        }
        int from = all.indexOf(ends[0]);
        if (from < 0) {
            return "";
        }
        int to = all.indexOf(ends[1], from + ends[0].length());
        return to < 0 ? all.substring(from) : all.substring(from, to);
    }

    private static String document() {
        if (document.isEmpty()) {
            try {
                document = plain(Files.readString(DOCUMENT));
            } catch (IOException e) {
                Checks.due("reading " + DOCUMENT + " (" + e + ")", 0, 1);
                document = " ";
            }
        }
        return document;
    }

    private static String plain(String text) {
        return text.replaceAll("\\s+", " ");
    }
}
