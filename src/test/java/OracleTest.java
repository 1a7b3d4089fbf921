import java.nio.charset.StandardCharsets;
import java.util.ArrayDeque;
import java.util.Deque;
import java.util.NoSuchElementException;

/** Random runs of calls: every answer is compared with the Oracle's. */
public final class OracleTest {
    private static final int CALLS = 512;

    private final RandomRuns runs;
    private final RuleCourt court = new RuleCourt();
    private final Oracle oracle = new Oracle();
    private final Deque<String> log = new ArrayDeque<>();
    private int calls = 0;
    private int lastOne = 0;

    private OracleTest(long seed) {
        runs = new RandomRuns(seed);
    }

    public static void main(String[] args) {
        int first = args.length > 0 ? Integer.parseInt(args[0]) : 0;
        int count = args.length > 1 ? Integer.parseInt(args[1]) : 3000;
        for (int seed = first; seed < first + count; seed++) {
            if (!new OracleTest(seed).run()) {
                System.out.println("seed " + seed);
                System.exit(1);
            }
        }
        System.out.println("OracleTest: " + count + " runs agree");
    }

    private boolean run() {
        boolean good = true;
        while (good && calls < CALLS) {
            good = runs.chance(12) ? tellText() : call(runs.below(40));
        }
        if (!good) {
            for (String line : log) {
                System.out.println(line);
            }
        }
        return good;
    }

    private boolean same(String what, long got, long want) {
        calls++;
        log.add(what + " = " + want);
        if (got != want) {
            log.add("WRONG: answered " + got);
        }
        return got == want;
    }

    private boolean tellText() {
        byte[] bytes = runs.text().getBytes(StandardCharsets.ISO_8859_1);
        boolean good = true;
        for (int f = 0; f * 20 < bytes.length; f++) {
            int[] n = new int[5];
            for (int i = 0; i < 20; i++) {
                int b = f * 20 + i < bytes.length ? bytes[f * 20 + i] & 255 : 32;
                n[i / 4] = n[i / 4] << 8 | b;
            }
            good &= same("feed", court.feed(n[0], n[1], n[2], n[3], n[4]),
                oracle.feed(n[0], n[1], n[2], n[3], n[4]));
        }
        int n = runs.chance(20) ? runs.below(440) - 20 : bytes.length;
        String text = new String(bytes, StandardCharsets.ISO_8859_1);
        good &= same("tell(" + n + ") of [" + text + "]", court.tell(n), oracle.tell(n));
        good &= same("trouble", court.trouble(), oracle.trouble());
        good &= same("fault", court.fault(), oracle.fault());
        return good && same("where", court.where(), oracle.where());
    }

    /** Mostly a number that there is. */
    private int number(int what) {
        int count = oracle.count(what);
        return runs.chance(10) || count == 0 ? runs.below(count + 3) - 1 : runs.below(count);
    }

    private int anAtom() {
        if (runs.chance(12)) {
            return runs.below(1200) - 100;
        }
        int kind = number(1);
        int many = oracle.many(kind);
        if (many > 0 && runs.chance(2)) {
            return oracle.one(kind, runs.below(many));
        }
        int places = oracle.places(kind);
        return 100 * kind + (places > 0 ? 10 * number(0) : 0) + (places > 1 ? number(0) : 0);
    }

    private boolean call(int which) {
        int a = anAtom();
        int k = number(1);
        int r = number(2);
        int i = runs.below(6) - 1;
        int w = runs.below(7) - 1;
        boolean b = runs.chance(2);
        switch (which) {
            case 0: return same("feed", court.feed(a, k, r, i, w), oracle.feed(a, k, r, i, w));
            case 1:
                a = runs.chance(6) ? a : -5;
                return same("tell " + a, court.tell(a), oracle.tell(a));
            case 2: return same("fault", court.fault(), oracle.fault());
            case 3: return same("where", court.where(), oracle.where());
            case 4: return atom(k, number(0), runs.chance(2) ? 0 : number(0));
            case 5: return name(b ? k : number(0), runs.below(10) - 1, b);
            case 6: return same("places " + k, court.places(k), oracle.places(k));
            case 7: return same("layer " + k, court.layer(k), oracle.layer(k));
            case 8: case 9: case 10:
                b = runs.chance(3);
                return same("fact " + a + b, court.fact(a, b), oracle.fact(a, b));
            case 11:
                r = runs.chance(3) ? r : -1;
                return same("drop " + r, court.drop(r) ? 1 : 0, oracle.drop(r) ? 1 : 0);
            case 12: case 13: return same("follows " + a, court.follows(a), oracle.follows(a));
            case 14: return same("many " + k, court.many(k), oracle.many(k));
            case 15: return one(k);
            case 16: case 17: return same("steps " + a, court.steps(a), oracle.steps(a));
            case 18: case 19: case 20: return why(a);
            case 21: return same("because " + i, court.because(i), oracle.because(i));
            case 22: return same("comes " + r + " " + a, court.comes(r, a), oracle.comes(r, a));
            case 23: case 24: return comesAt(r);
            case 25: return same("rule " + r + " " + w, court.rule(r, w), oracle.rule(r, w));
            case 26: return same("idle " + r, court.rule(r, 3), oracle.rule(r, 3));
            case 27: return same("spare " + r, court.rule(r, 4), oracle.rule(r, 4));
            case 28: case 29: case 30:
                return same("term " + r + " " + i + " " + w, court.term(r, i, w),
                    oracle.term(r, i, w));
            case 31: return runs.things > 5 && !runs.chance(8) || go(a);
            case 32: return same("gone " + i, court.gone(i), oracle.gone(i));
            case 33: return same("derived", court.derived(), oracle.derived());
            case 34: return same("deepest", court.deepest(), oracle.deepest());
            case 35: case 36:
                return same("turned " + a + b, court.turned(a, b), oracle.turned(a, b));
            case 37: return same("count " + w, court.count(w), oracle.count(w));
            case 38: return same("trouble", court.trouble(), oracle.trouble());
            default: return same("count 5", court.count(5), oracle.count(5));
        }
    }

    private boolean atom(int k, int first, int second) {
        return same("atom " + k + " " + first + " " + second, court.atom(k, first, second),
            oracle.atom(k, first, second));
    }

    private boolean name(int k, int i, boolean kind) {
        int want;
        try {
            want = oracle.name(k, i, kind);
        } catch (NoSuchElementException e) {
            want = -2;
        }
        return same("name " + k + " " + i + kind, Checks.name(court, k, i, kind), want);
    }

    private boolean one(int k) {
        lastOne = runs.chance(2) ? lastOne + 1 : runs.below(8) - 1;
        return same("one " + k + " " + lastOne, court.one(k, lastOne), oracle.one(k, lastOne));
    }

    private boolean why(int a) {
        boolean good = same("why " + a, court.why(a), oracle.why(a));
        for (int i = 0; i < 4; i++) {
            good &= same("because " + i, court.because(i), oracle.because(i));
        }
        return good;
    }

    private boolean comesAt(int r) {
        int kind = oracle.rule(r, 0);
        int places = oracle.places(kind);
        int a = 100 * kind + (places > 0 ? 10 * number(0) : 0) + (places > 1 ? number(0) : 0);
        return same("comes " + r + " " + a, court.comes(r, a), oracle.comes(r, a));
    }

    private boolean go(int a) {
        boolean good = same("go " + a, court.go(a), oracle.go(a));
        for (int i = 0; i < 4; i++) {
            good &= same("gone " + i, court.gone(i), oracle.gone(i));
        }
        return good;
    }
}
