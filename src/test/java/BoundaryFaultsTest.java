/** The boundary cases of the FAULTS 1 to 6 and their places (Term II). */
public final class BoundaryFaultsTest {
    private static final String TEN_THINGS =
        "p(a).p(b).p(c).p(d).p(e).p(f).p(g).p(h).p(i).p(j).";
    private static final String TEN_KINDS = "p(a).q(a,a).r.s.t.u.v.w.x.y.";
    private static final String NINETEEN_RULES = "z.p:z.p:z.p:z.p:z.p:z.p:z.p:z.p:z.p:z.p:z."
        + "p:z.p:z.p:z.p:z.p:z.p:z.p:z.p:z.p:z.";

    private BoundaryFaultsTest() {
    }

    public static void main(String[] args) {
        firstFromTheLeft();
        leastNumber();
        byteThatBeginsNoToken();
        tokenWithWhichNoTextGoesOn();
        end();
        otherPlaces();
        placesBehindArgs();
        signInFact();
        signAskedAtItsEnd();
        manyThings();
        manyKinds();
        fifthTerm();
        fourthSign();
        manyRules();
        looseInFirstAtom();
        looseInNotAndUnlike();
        looseFirstPlace();
        behindWholeText();
        throughRules();
        firstRuleWithWhich();
        refusedAsWhole();
        Boundary.end("BoundaryFaultsTest");
    }

    private static RuleCourt fresh() {
        return new RuleCourt();
    }

    private static void firstFromTheLeft() {
        Boundary.of("Term II", "FAULTS, the first that is met from the left");
        // Each has one FAULT for a court of ten THINGS that knows z and p(a).
        String[] faulty = {"z q.", "z(a).", "p(A).", "p(k).", "p(A):z.", "z !", "y:z,z,z,z,z."};
        int[] numbers = {1, 2, 3, 4, 5, 1, 4};
        int[] places = {2, 0, 2, 2, 2, 2, 10};
        String sound = "p(a). ";
        for (int i = 0; i < faulty.length; i++) {
            for (int j = 0; j < faulty.length; j++) {
                RuleCourt x = Checks.court(TEN_THINGS + "z.");
                Boundary.told(x, sound, 1);
                Boundary.refused(x, sound + faulty[i] + faulty[j], numbers[i], 6 + places[i]);
            }
        }
    }

    private static void leastNumber() {
        Boundary.of("Term II", "of one place the least number");
        // A fifth TERM's first TOKEN
        Boundary.refused(fresh(), "p:q,q,q,q,q.", 4, 10);
        Boundary.refused(fresh(), "p:q,q,q,q,.", 1, 10);
        Boundary.refused(fresh(), "p:q,q,q,q,#a.", 1, 10);
        // An 11th THING's WORD, and WORDS that may not stand there
        Boundary.refused(Checks.court(TEN_THINGS), "p(k).", 4, 2);
        Boundary.refused(Checks.court(TEN_THINGS), "p(a k).", 1, 4);
        Boundary.refused(Checks.court(TEN_THINGS), "p(kkkkkkkkk).", 1, 2);
        // An 11th KIND's
        Boundary.refused(Checks.court(TEN_KINDS), "r:z.", 4, 2);
        Boundary.refused(Checks.court(TEN_KINDS), "r:not not.", 1, 6);
        Boundary.refused(Checks.court(TEN_KINDS), "r z.", 1, 2);
        // A fourth SIGN
        Boundary.refused(fresh(), "p:q(A,B),q(C,D).", 4, 13);
        Boundary.refused(fresh(), "p:q(A,B),q(C D).", 1, 13);
        // A 21st RULE's :
        Boundary.refused(Checks.court(NINETEEN_RULES, "p:z."), "p:z.", 4, 1);
        Boundary.refused(Checks.court(NINETEEN_RULES, "p:z."), "p.:z.", 1, 2);
        Boundary.told(fresh(), "p:q,q,q,q.", 1);
    }

    private static void byteThatBeginsNoToken() {
        Boundary.of("Term II", "1 FORM: the first byte that begins no TOKEN");
        for (int b = 0; b < 256; b++) {
            boolean begins = b >= 'a' && b <= 'z' || b == ' ' || b == '\n';
            String text = "p." + (char) b + "q.";
            if (begins) {
                Boundary.told(fresh(), text, 2);
            } else {
                Boundary.refused(fresh(), text, 1, 2);
            }
        }
        // The first of them, and the last byte of all
        Boundary.refused(fresh(), "p.!~q.", 1, 2);
        Boundary.refused(fresh(), "p.~!q.", 1, 2);
        Boundary.refused(fresh(), "p.q.~", 1, 4);
        Boundary.refused(fresh(), "p.q.I", 1, 4);
        // Behind the first n bytes it doesn't matter.
        RuleCourt x = fresh();
        Checks.feed(x, "p.q.~".getBytes());
        Boundary.still("the bytes ahead of it", x.tell(4), 2);
    }

    private static void tokenWithWhichNoTextGoesOn() {
        Boundary.of("Term II", "or TOKEN with which no TEXT goes on");
        // Behind each beginning, those of the TOKENS with which a TEXT goes on
        String[] ahead = {"", "p", "p(", "p(a", "p(a,", "p(a,b", "p(a)", "p.", "p:", "p:q",
            "p:q,", "p:q(", "p:q(A", "p:q(A,", "p:q(A)", "p:not", "p:A", "p:A#", "p:A#a", "p:a#"};
        String[] goesOn = {"w", "(.:", "wA", "),", "wA", ")", ".:", "w", "wnA", "(.,#",
            "wnA", "wnA", "),", "wnA", ".,", "w#", "#", "wnA", ".,", "wnA"};
        String[] tokens = {"w", "n", "A", "(", ")", ",", ".", ":", "#"};
        for (int i = 0; i < ahead.length; i++) {
            for (String token : tokens) {
                String written = token.equals("w") ? "word" : token.equals("n") ? "not" : token;
                String text = ahead[i] + " " + written;
                boolean goes = goesOn[i].contains(token)
                    || token.equals("n") && ahead[i].matches("p\\(|p\\(a,");
                ask(text, ahead[i].length() + 1, goes);
            }
        }
    }

    /** The TOKEN at the place is refused by FORM, or the FAULT is another one, or none. */
    private static void ask(String text, int place, boolean goes) {
        RuleCourt x = fresh();
        int answer = Checks.tell(x, text);
        boolean refused = answer < 0 && x.fault() == 1 && x.where() == place;
        if (goes) {
            Boundary.still("[" + text + "]", refused, false);
        } else {
            Boundary.beyond("[" + text + "]", refused, true);
        }
    }

    private static void end() {
        Boundary.of("Term II", "(the end: its place)");
        String text = "p(a).\nq(A,b): r ( A ) , not s , A # bb .\n t . \n";
        for (int n = 0; n <= text.length(); n++) {
            RuleCourt x = fresh();
            Checks.feed(x, text.getBytes());
            String last = text.substring(0, n).trim();
            if (last.endsWith(".")) {
                Boundary.still("tell " + n, x.tell(n) > 0, true);
                Boundary.still("where of tell " + n, x.where(), -1);
            } else {
                Boundary.beyond("tell " + n, x.tell(n), -1);
                Boundary.beyond("fault of tell " + n, x.fault(), 1);
                Boundary.beyond("where of tell " + n, x.where(), n);
            }
        }
        // At the end of a full TAPE
        Boundary.refused(fresh(), "p.".repeat(199) + "pp", 1, 400);
        Boundary.refused(fresh(), "p.".repeat(199) + "p:", 1, 400);
        Boundary.told(fresh(), "p.".repeat(198) + "p:p.", 199);
    }

    private static void otherPlaces() {
        Boundary.of("Term II", "2 a KIND with another number of PLACES than it has; at its WORD");
        String[] atoms = {"p", "p(a)", "p(a,a)"};
        for (int has = 0; has < 3; has++) {
            for (int gets = 0; gets < 3; gets++) {
                String[] texts = {"q. " + atoms[gets] + ".", "q: " + atoms[gets] + ".",
                    "q:not " + atoms[gets] + "."};
                int[] places = {3, 3, 6};
                for (int i = 0; i < texts.length; i++) {
                    RuleCourt x = Checks.court(atoms[has] + ".");
                    if (has == gets) {
                        Boundary.told(x, texts[i], i == 0 ? 2 : 1);
                    } else {
                        Boundary.refused(x, texts[i], 2, places[i]);
                    }
                    // Named anew in the same text
                    String both = atoms[has] + "." + texts[i];
                    if (has == gets) {
                        Boundary.told(fresh(), both, i == 0 ? 3 : 2);
                    } else {
                        Boundary.refused(fresh(), both, 2, atoms[has].length() + 1 + places[i]);
                    }
                }
            }
        }
        // What a refused text named has no PLACES yet.
        RuleCourt x = Boundary.refused(fresh(), "p(a). p.", 2, 6);
        Boundary.told(x, "p.", 1);
        Boundary.refused(x, "p(a).", 2, 0);
    }

    private static void placesBehindArgs() {
        Boundary.of("Term II", "at its WORD (behind its ARGS)");
        RuleCourt x = Checks.court(TEN_THINGS);
        // What is met within the ARGS comes first, what stands behind them doesn't.
        Boundary.refused(x, "p(a,k).", 4, 4);
        Boundary.refused(x, "p(a,.", 1, 4);
        Boundary.refused(x, "p(a,b.", 1, 5);
        Boundary.refused(x, "p(a,b)).", 2, 0);
        Boundary.refused(x, "p(a,b) q.", 2, 0);
        Boundary.refused(x, "p(a,B).", 2, 0);
        Boundary.refused(x, "p , q.", 2, 0);
        Boundary.told(x, "p(a).", 1);
    }

    private static void signInFact() {
        Boundary.of("Term II", "3 a SIGN in a FACT; at the first");
        Boundary.told(fresh(), "p(a,b). q(a).", 2);
        Boundary.told(fresh(), "p(A,B):r(A,B).", 1);
        Boundary.refused(fresh(), "p(A,b).", 3, 2);
        Boundary.refused(fresh(), "p(a,B).", 3, 4);
        Boundary.refused(fresh(), "p(A,B).", 3, 2);
        Boundary.refused(fresh(), "p(A,A).", 3, 2);
        Boundary.refused(fresh(), "q( \n H).", 3, 5);
        Boundary.refused(fresh(), "r. p(A,B):s(A,B). q(a). q(C).", 3, 26);
    }

    private static void signAskedAtItsEnd() {
        Boundary.of("Term II", "(asked at the FACT's . )");
        Boundary.refused(fresh(), "p(A)", 1, 4);
        Boundary.refused(fresh(), "p(A", 1, 3);
        Boundary.refused(fresh(), "p(A,", 1, 4);
        Boundary.refused(fresh(), "p(A)~", 1, 4);
        Boundary.refused(fresh(), "p(A),", 1, 4);
        Boundary.refused(Checks.court(TEN_THINGS), "q(A,k).", 4, 4);
        Boundary.refused(fresh(), "p(A).", 3, 2);
        Boundary.refused(fresh(), "p(A).~", 3, 2);
        Boundary.told(fresh(), "p(A):q(A).", 1);
    }

    private static void manyThings() {
        Boundary.of("Term II", "4 MANY: an 11th THING, KIND, at its WORD");
        Boundary.told(Checks.court(TEN_THINGS), "p(j). q(i,j). r:a#j,not q(j,j),p(j).", 3);
        Boundary.refused(Checks.court(TEN_THINGS), "p( k ).", 4, 3);
        Boundary.refused(Checks.court(TEN_THINGS), "q(a, k).", 4, 5);
        Boundary.refused(Checks.court(TEN_THINGS), "q(k,l).", 4, 2);
        Boundary.refused(Checks.court(TEN_THINGS), "q:p(A), kk # A.", 4, 8);
        Boundary.refused(Checks.court(TEN_THINGS), "q:p(A), A # kk.", 4, 12);
        Boundary.refused(Checks.court(TEN_THINGS), "q:p(A), not r(A,k).", 4, 16);
        Boundary.refused(Checks.court(TEN_THINGS), "p(k", 4, 2);
        // One of nine may come anew, and a refused one doesn't count.
        RuleCourt x = Checks.court("p(a).p(b).p(c).p(d).p(e).p(f).p(g).p(h).p(i).");
        Boundary.refused(x, "p(x).p(y).", 4, 7);
        Boundary.refused(x, "p(x).p", 2, 5);
        Boundary.told(x, "p(z).", 1);
        Boundary.refused(x, "p(x).", 4, 2);
    }

    private static void manyKinds() {
        Boundary.of("Term II", "an 11th THING, KIND, at its WORD; a fifth TERM");
        Boundary.told(Checks.court(TEN_KINDS), "y. r:q(A,B),not y. p(y).", 3);
        Boundary.refused(Checks.court(TEN_KINDS), " z.", 4, 1);
        Boundary.refused(Checks.court(TEN_KINDS), "z(", 4, 0);
        Boundary.refused(Checks.court(TEN_KINDS), "z(A).", 4, 0);
        Boundary.refused(Checks.court(TEN_KINDS), "z:r.", 4, 0);
        Boundary.refused(Checks.court(TEN_KINDS), "r:s, z.", 4, 5);
        Boundary.refused(Checks.court(TEN_KINDS), "r:s, not z.", 4, 9);
        RuleCourt x = Checks.court("p.q.r.s.t.u.v.w.x.");
        Boundary.refused(x, "y.z.", 4, 2);
        Boundary.told(x, "z(a).", 1);
        Boundary.refused(x, "y.", 4, 0);
    }

    private static void fifthTerm() {
        Boundary.of("Term II",
            "a fifth TERM of a RULE, at its first TOKEN, if it may stand there (else 1)");
        Boundary.told(fresh(), "p:q,q,q,q.", 1);
        Boundary.told(fresh(), "p:q,q,q,not r. p:a#b,a#b,a#b,a#b.", 2);
        String[] mayStand = {"q.", "q", "not q.", "not", "a#b.", "A#b.", "A", "abcdefgh.", "z(a)."};
        for (String fifth : mayStand) {
            Boundary.refused(fresh(), "p:q,q,q,q, " + fifth, 4, 11);
        }
        String[] mayNot = {"", ".", ",", ":", "(", ")", "#", "~", "I", "abcdefghi."};
        for (String fifth : mayNot) {
            Boundary.refused(fresh(), "p:q,q,q,q, " + fifth, 1, 11);
        }
        // Ahead of its , there is no fifth.
        Boundary.refused(fresh(), "p:q,q,q,q q.", 1, 10);
        Boundary.refused(fresh(), "p:q,q,q,q", 1, 9);
        // The fourth is read as a whole first.
        Boundary.refused(fresh(), "p:q,q,q,q(a),q.", 2, 8);
    }

    private static void fourthSign() {
        Boundary.of("Term II", "a fourth SIGN of a RULE, at it");
        Boundary.told(fresh(), "p(A,B):q(A,C),q(B,C),A#B,not q(C,A).", 1);
        Boundary.refused(fresh(), "p(A,B):q(A,C),q(B, D),A#B.", 4, 19);
        Boundary.refused(fresh(), "p(A,B):q(C,D).", 4, 11);
        Boundary.refused(fresh(), "p(A,B):C#D.", 4, 9);
        Boundary.refused(fresh(), "p(A,B):C#a,D#a.", 4, 11);
        Boundary.refused(fresh(), "p(A,B):C#a,not q(D", 4, 17);
        // The first that is one too many
        Boundary.refused(fresh(), "p(A,B):q(C,D),q(E,F).", 4, 11);
        // Those of a CLAUSE ahead don't count, nor one that stands there again.
        Boundary.told(fresh(), "p(A,B):q(A,B),r(C). p(D,E):q(D,E),r(F),r(D),r(E).", 2);
        Boundary.refused(fresh(), "p(A,B):q(A,B),r(C). p(D,E):q(D,E),r(F),r(A).", 4, 41);
        // Nor do those of a refused text or of a RULE that is gone.
        RuleCourt x = Boundary.refused(fresh(), "p(A,B):q(A,B),r(C)!", 1, 18);
        Boundary.told(x, "p(D,E):q(D,E),r(F).", 1);
        Boundary.still("three SIGNS", x.rule(0, 2), 3);
        x.drop(0);
        Boundary.told(x, "p(G,H):q(G,A),q(H,A).", 1);
        Boundary.still("three SIGNS", x.rule(0, 2), 3);
        Boundary.refused(x, "q(A,B).", 3, 2);
        Boundary.told(x, "r(F):q(F,C),q(C,D).", 1);
        Boundary.still("three SIGNS", x.rule(1, 2), 3);
        Boundary.still("the first that stands", x.term(1, 0, 2), 100);
        Boundary.refused(x, "r(F):q(F,C),q(C,D),r(E).", 4, 21);
    }

    private static void manyRules() {
        Boundary.of("Term II", "a 21st RULE, at its :");
        Boundary.told(Checks.court(NINETEEN_RULES), "p:z.", 1);
        Boundary.told(Checks.court(NINETEEN_RULES, "p:z."), "p. q.", 2);
        Boundary.refused(Checks.court(NINETEEN_RULES, "p:z."), "p :z.", 4, 2);
        Boundary.refused(Checks.court(NINETEEN_RULES), "p:z. p:z.", 4, 6);
        Boundary.refused(Checks.court(NINETEEN_RULES, "p:z."), "p:", 4, 1);
        Boundary.refused(Checks.court(NINETEEN_RULES, "p:z."), "p:~", 4, 1);
        Boundary.refused(Checks.court(NINETEEN_RULES, "p:z."), "q(A,B):z.", 4, 6);
        Boundary.refused(Checks.court(NINETEEN_RULES, "p:z."), "p(a):z.", 2, 0);
        Boundary.refused(Checks.court(NINETEEN_RULES, "p:z."), "p", 1, 1);
    }

    private static void looseInFirstAtom() {
        Boundary.of("Term II", "5 a SIGN of a RULE's first ATOM");
        Boundary.told(fresh(), "p(A,B):q(A),q(B). r(A):p(a,A). r(A):p(A,a).", 3);
        Boundary.refused(fresh(), "p(A,B):q(A).", 5, 4);
        Boundary.refused(fresh(), "p(A,B):q(B).", 5, 2);
        Boundary.refused(fresh(), "p(a,B):q(a).", 5, 4);
        // A not and a # don't make up for it.
        Boundary.refused(fresh(), "r(A):not q(A).", 5, 2);
        Boundary.refused(fresh(), "r(A):A#b.", 5, 2);
        Boundary.refused(fresh(), "r(A):b#A,not q(A),q(B).", 5, 2);
        // Nor does a RULE ahead.
        Boundary.refused(fresh(), "r(A):q(A). r(A):q(a).", 5, 13);
    }

    private static void looseInNotAndUnlike() {
        Boundary.of("Term II", "of a not, of a # that is in no other ATOM TERM of it");
        Boundary.told(fresh(), "p:q(A,B),not r(B,A),A#B.", 1);
        Boundary.told(fresh(), "p:A#B,not r(B,A),q(A,B).", 1);
        Boundary.refused(fresh(), "p:q(A,a),not r(B,A).", 5, 15);
        Boundary.refused(fresh(), "p:q(A,a),not r(A,B).", 5, 17);
        Boundary.refused(fresh(), "p:q(A,a),A#B.", 5, 11);
        Boundary.refused(fresh(), "p:q(A,a),B#A.", 5, 9);
        Boundary.refused(fresh(), "p:A#A.", 5, 2);
        Boundary.refused(fresh(), "p:not r(A,a),A#b.", 5, 8);
        // In the last of four TERMS or in none of them
        Boundary.told(fresh(), "p(A):A#a,not r(A),s,q(A).", 1);
        Boundary.refused(fresh(), "p(A):A#a,not r(A),s,q(B).", 5, 2);
        Boundary.refused(fresh(), "p:A#a,not r(A),s,q(B).", 5, 2);
        // A TERM of a longer RULE that is gone, or of a refused text, isn't one of it.
        RuleCourt x = Checks.court("p:s,q(A).");
        x.drop(0);
        Boundary.refused(x, "r(A):s.", 5, 2);
        Boundary.refused(x, "p:s,q(A)!", 1, 8);
        Boundary.refused(x, "r(A):s.", 5, 2);
        Boundary.told(x, "r(A):s,q(A).", 1);
    }

    private static void looseFirstPlace() {
        Boundary.of("Term II", "at the first place where it stands so (asked at the RULE's . )");
        Boundary.refused(fresh(), "p(A):not q(B),C#a.", 5, 2);
        Boundary.refused(fresh(), "p:not q(B),C#a.", 5, 8);
        Boundary.refused(fresh(), "p:C#a,not q(B).", 5, 2);
        Boundary.refused(fresh(), "p:r(C),C#a,not q(B).", 5, 17);
        Boundary.refused(fresh(), "p:r(B),C#B,not q(C).", 5, 7);
        // Asked only there
        Boundary.refused(fresh(), "p(A):q", 1, 6);
        Boundary.refused(fresh(), "p(A):q,q~", 1, 8);
        Boundary.refused(fresh(), "p(A):q,q(a).", 2, 7);
        Boundary.refused(Checks.court(TEN_KINDS), "p(A):r,z.", 4, 7);
        Boundary.refused(fresh(), "p(A):q. r(A).", 5, 2);
        Boundary.told(fresh(), "p(A):a#b,c#A,q(A).", 1);
    }

    private static void behindWholeText() {
        Boundary.of("Term II", "Behind a whole text without these: 6");
        Boundary.refused(fresh(), "p:not p.", 6, 0);
        Boundary.refused(fresh(), "p:not p. q.", 6, 0);
        Boundary.refused(fresh(), "p:not p. q", 1, 10);
        Boundary.refused(fresh(), "p:not p. p(a).", 2, 9);
        Boundary.refused(fresh(), "p:not p. q(A).", 3, 11);
        Boundary.refused(Checks.court(TEN_THINGS), "r:not r. p(k).", 4, 11);
        Boundary.refused(fresh(), "p:not p. q(A):p.", 5, 11);
        Boundary.told(fresh(), "p:not q. q.", 2);
    }

    private static void throughRules() {
        Boundary.of("Term II",
            "a RULE by which some KIND would lean on a refusal of itself (through whichever RULES)");
        String[] kinds = {"a", "b", "c", "d", "e", "f", "g", "h", "i", "j"};
        for (int length = 1; length <= 10; length++) {
            StringBuilder chain = new StringBuilder();
            for (int k = 0; k + 1 < length; k++) {
                chain.append(kinds[k] + ":" + kinds[k + 1] + ".");
            }
            String last = kinds[length - 1];
            Boundary.told(fresh(), chain + last + ":a.", length);
            Boundary.refused(fresh(), chain + last + ":not a.", 6, chain.length());
            // All by refusals, up to where it would close
            String refusals = chain.toString().replace(":", ":not ");
            if (length > 1) {
                Boundary.told(fresh(), refusals, length - 1);
                Boundary.refused(fresh(), refusals + last + ":a.", 6, refusals.length());
            }
        }
        // Some KIND that isn't the RULE's own
        Boundary.refused(Checks.court("p:not q. r:p."), "s. q:r.", 6, 3);
        Boundary.told(Checks.court("p:not q. r:p."), "q:s. r:not q, not p.", 2);
        // ATOMS that aren't the same are of the same KIND.
        Boundary.refused(fresh(), "p(a):not p(b).", 6, 0);
    }

    private static void firstRuleWithWhich() {
        Boundary.of("Term II",
            "at the first ATOM of the first RULE of the text with which, and those ahead, it is so");
        Boundary.refused(fresh(), "x. p:not q. x. q:p. p:not p.", 6, 15);
        Boundary.refused(fresh(), "q:p. p:not q. q:p.", 6, 5);
        Boundary.refused(fresh(), "p:not p. q:not q.", 6, 0);
        Boundary.refused(fresh(), "\n\n p(a):q, not p(a).", 6, 3);
        // Those of texts ahead count, unless they have been dropped.
        RuleCourt x = Checks.court("p:not q.");
        Boundary.refused(x, "r:q. r:p. q:r.", 6, 10);
        x.drop(0);
        Boundary.told(x, "r:q. r:p. q:r.", 3);
        Boundary.refused(x, "s. p:not q. r:not r.", 6, 3);
    }

    private static void refusedAsWhole() {
        Boundary.of("Term II",
            "A text with a FAULT is refused as a whole (what it names anew isn't there)");
        String[] texts = {"n(m). o:n(m),not p(l). p(l)~", "n(m). o:n(m),not p(l). n.",
            "n(m). o:n(m),not p(l). n(A).", "n(m). o:n(m),not p(l). o:o,o,o,o,o.",
            "n(m). o:n(m),not p(l). p(A):o.", "n(m). o:n(m),not p(l). p(l):o."};
        for (int fault = 1; fault <= 6; fault++) {
            RuleCourt x = Checks.court("a(b). c(A):a(A),not d(A).");
            Boundary.refused(x, texts[fault - 1], fault,
                fault == 3 || fault == 5 ? 25 : fault == 4 ? 33 : fault == 1 ? 27 : 23);
            Boundary.beyond("FAULT " + fault + ": the KIND", x.places(3), -1);
            Boundary.beyond("FAULT " + fault + ": the THING", Checks.name(x, 1, 0, false), -2);
            Boundary.beyond("FAULT " + fault + ": the RULE", x.rule(1, 0), -1);
            Boundary.beyond("FAULT " + fault + ": the ATOM", x.follows(310), -1);
            Boundary.still("FAULT " + fault + ": the RULE ahead", x.term(0, 1, 1), 2);
            Boundary.still("FAULT " + fault + ": its LAYER", x.layer(1), 1);
            Boundary.still("FAULT " + fault + ": what FOLLOWS", x.follows(100), 1);
            // The same names, of other numbers of PLACES and in another order
            Boundary.told(x, "p(l,m). o(m). n:c(b),o(m).", 3);
            Boundary.still("FAULT " + fault + ": told anew", x.places(3), 2);
            Boundary.still("FAULT " + fault + ": told anew", Checks.name(x, 1, 0, false), 'l');
            Boundary.still("FAULT " + fault + ": it FOLLOWS", x.follows(500), 1);
            Boundary.still("FAULT " + fault + ": STEPS", x.steps(500), 2);
        }
        // A FACT of KINDS that are there isn't told either.
        RuleCourt y = Checks.court("a(b).a(c). d(b).");
        Boundary.refused(y, "d(c). ~", 1, 6);
        Boundary.beyond("the FACT ahead of the FAULT", y.follows(110), 0);
        Boundary.told(y, "d(b).", 1);
        Boundary.beyond("nor with the next text", y.follows(110), 0);
        Boundary.told(y, "d(c).", 1);
        Boundary.still("but when it is told", y.follows(110), 2);
    }
}
