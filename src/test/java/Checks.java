import java.nio.charset.StandardCharsets;
import java.util.NoSuchElementException;

/** What the tests share: telling texts, comparing answers, ending with exit code 1. */
final class Checks {
    private static int wrong = 0;
    private static int asked = 0;

    private Checks() {
    }

    static void due(String what, long got, long want) {
        asked++;
        if (got != want) {
            wrong++;
            System.out.println(what + " answered " + got + ", due is " + want);
        }
    }

    static void due(String what, boolean got, boolean want) {
        due(what, got ? 1 : 0, want ? 1 : 0);
    }

    static void end(String test) {
        System.out.println(test + ": " + asked + " answers, " + wrong + " wrong");
        if (wrong != 0) {
            System.exit(1);
        }
    }

    /** Feeds the bytes, filled up with blanks to a multiple of 20; how many feeds it took. */
    static int feed(RuleCourt court, byte[] bytes) {
        int feeds = (bytes.length + 19) / 20;
        for (int f = 0; f < feeds; f++) {
            int[] numbers = new int[5];
            for (int i = 0; i < 20; i++) {
                int at = f * 20 + i;
                int b = at < bytes.length ? bytes[at] & 255 : 32;
                numbers[i / 4] = numbers[i / 4] << 8 | b;
            }
            court.feed(numbers[0], numbers[1], numbers[2], numbers[3], numbers[4]);
        }
        return feeds;
    }

    static int tell(RuleCourt court, String text) {
        byte[] bytes = text.getBytes(StandardCharsets.ISO_8859_1);
        feed(court, bytes);
        return court.tell(bytes.length);
    }

    /** A court that has been told these texts, none of which may have a FAULT. */
    static RuleCourt court(String... texts) {
        RuleCourt court = new RuleCourt();
        for (String text : texts) {
            if (tell(court, text) < 0) {
                due("a FAULT at " + court.where() + " of: " + text, court.fault(), 0);
            }
        }
        return court;
    }

    /** The byte, or -2 for a NoSuchElementException. */
    static int name(RuleCourt court, int k, int i, boolean kind) {
        try {
            return court.name(k, i, kind);
        } catch (NoSuchElementException e) {
            return -2;
        }
    }
}
