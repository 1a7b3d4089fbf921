import java.util.ArrayList;
import java.util.Collections;
import java.util.List;
import java.util.Random;

/** Makes the texts of random runs: mostly sound ones, near the BOUNDS at times, some spoilt. */
final class RandomRuns {
    private final Random random;
    final int things;
    final int kinds;
    private final int[] places = new int[12];
    private final int spoilt;
    private final int mostSigns;
    // FACTS of the first KINDS alone leave more for the RULES to lead to.
    private final int factKinds;
    private final boolean deep;
    private int texts = 0;

    RandomRuns(long seed) {
        random = new Random(seed);
        boolean wide = random.nextInt(6) == 0;
        things = wide ? 8 + random.nextInt(4) : 1 + random.nextInt(5);
        kinds = random.nextInt(4) == 0 ? 9 + random.nextInt(3) : 2 + random.nextInt(6);
        for (int k = 0; k < places.length; k++) {
            places[k] = random.nextInt(5) == 0 ? 0 : 1 + random.nextInt(2);
        }
        spoilt = random.nextInt(4) == 0 ? 2 : 15;
        mostSigns = random.nextInt(20) == 0 ? 4 : 3;
        deep = random.nextInt(2) == 0;
        factKinds = deep ? Math.min(kinds, 2) : kinds;
        if (deep) {
            places[0] = 2;
        }
    }

    boolean chance(int of) {
        return random.nextInt(of) == 0;
    }

    int below(int bound) {
        return random.nextInt(bound);
    }

    String text() {
        StringBuilder text = new StringBuilder();
        texts++;
        if (deep && texts == 1) {
            return chain();
        }
        int clauses = 1 + random.nextInt(random.nextInt(4) == 0 ? 20 : 7);
        int factsIn = 1 + random.nextInt(4);
        for (int c = 0; c < clauses; c++) {
            String clause = random.nextInt(4) < factsIn ? fact() : rule();
            if (random.nextInt(5) > 0 && text.length() + clause.length() > 400) {
                break;
            }
            text.append(clause);
        }
        if (chance(spoilt)) {
            spoil(text);
        }
        return text.substring(0, Math.min(text.length(), 400));
    }

    /** A way through the THINGS, and RULES that follow it. */
    private String chain() {
        StringBuilder text = new StringBuilder();
        String[] words = {"a", "b", "c", "d", "not", "eightlet", "p", "q", "x", "y"};
        int length = Math.min(things, words.length);
        for (int t = 0; t + 1 < length; t++) {
            text.append("p(" + words[t] + "," + words[t + 1] + ").");
        }
        text.append("p(" + words[length - 1] + "," + words[random.nextInt(length)] + ").");
        String way = places[1] == 2 ? "q(A,C):q(A,B),p(B,C).q(A,B):p(A,B)."
            : places[1] == 1 ? "q(A):q(B),p(B,A).q(a)." : "q:p(A,B),p(B,A).";
        return text.append(way).toString();
    }

    private void spoil(StringBuilder text) {
        String bytes = "abpqnot ABCDEHIZ(),.:#\n~0" + (char) 255 + (char) 0;
        for (int n = 1 + random.nextInt(2); n > 0 && text.length() > 0; n--) {
            int at = random.nextInt(text.length());
            char b = bytes.charAt(random.nextInt(bytes.length()));
            switch (random.nextInt(5)) {
                case 0: text.deleteCharAt(at); break;
                case 1: text.insert(at, b); break;
                case 2: text.setCharAt(at, b); break;
                case 3: text.insert(at, "not "); break;
                default: text.setLength(at); break;
            }
        }
    }

    private String blanks() {
        int n = random.nextInt(8);
        return n == 0 ? " " : n == 1 ? "\n" : n == 2 && chance(4) ? "  \n " : "";
    }

    private String kindWord(int k) {
        String[] words = {"p", "q", "r", "s", "edge", "path", "longname", "a", "b", "notq", "no", "z"};
        return words[k];
    }

    private String thingWord() {
        String[] words = {"a", "b", "c", "d", "not", "eightlet", "p", "q", "x", "y", "z", "zz"};
        return words[random.nextInt(things)];
    }

    private String sign(int signs) {
        return "" + "ABCH".charAt(random.nextInt(signs));
    }

    private String atom(int kind, int signs, int oneThingOf) {
        StringBuilder atom = new StringBuilder(kindWord(kind)).append(blanks());
        int args = chance(80) ? random.nextInt(3) : places[kind];
        for (int a = 0; a < args; a++) {
            atom.append(a == 0 ? "(" : ",").append(blanks());
            atom.append(signs == 0 || chance(oneThingOf) ? thingWord() : sign(signs));
            atom.append(blanks());
        }
        return atom.append(args == 0 ? "" : ")").toString();
    }

    private String fact() {
        return atom(random.nextInt(factKinds), chance(60) ? 2 : 0, 2) + "." + blanks();
    }

    private String rule() {
        int head = random.nextInt(kinds);
        int signs = random.nextInt(mostSigns + 1);
        List<String> terms = new ArrayList<>();
        StringBuilder bound = new StringBuilder();
        int size = chance(25) ? 5 : 1 + random.nextInt(4);
        int positives = Math.max(random.nextInt(size + 1), chance(6) ? 0 : 1);
        for (int t = 0; t < positives; t++) {
            int kind = chance(20) ? random.nextInt(kinds) : random.nextInt(head + 1);
            terms.add(atom(kind, signs, deep ? 12 : 5));
            bound.append(terms.get(t));
        }
        for (int t = positives; t < size; t++) {
            int kind = chance(30) ? random.nextInt(kinds) : random.nextInt(Math.max(1, head));
            String term = chance(2) ? "not " + atom(kind, signs, 4) : unlike(signs);
            terms.add(repaired(term, bound.toString()));
        }
        if (chance(2)) {
            Collections.shuffle(terms, random);
        }
        String first = repaired(atom(head, signs, deep ? 20 : 6), bound.toString());
        return first + blanks() + ":" + blanks() + String.join("," + blanks(), terms) + blanks()
            + "." + blanks();
    }

    private String unlike(int signs) {
        String first = signs == 0 || chance(4) ? thingWord() : sign(signs);
        String second = signs == 0 || chance(3) ? thingWord() : sign(signs);
        return first + blanks() + "#" + blanks() + second;
    }

    private String instead(String bound) {
        for (char c : "ABCH".toCharArray()) {
            if (deep && bound.indexOf(c) >= 0 && chance(2)) {
                return "" + c;
            }
        }
        return thingWord();
    }

    /** Mostly puts something sound for a SIGN that no ATOM TERM has. */
    private String repaired(String term, String bound) {
        StringBuilder out = new StringBuilder();
        for (char c : term.toCharArray()) {
            boolean loose = c >= 'A' && c <= 'H' && bound.indexOf(c) < 0;
            out.append(loose && !chance(20) ? instead(bound) : "" + c);
        }
        return out.toString();
    }
}
