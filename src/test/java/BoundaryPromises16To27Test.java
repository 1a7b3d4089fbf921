/** The boundary cases of the Promises 16 to 27. */
public final class BoundaryPromises16To27Test {
    private static final int[] FAR = Boundary.FAR;
    // Of a court that was told MIXED: ATOMS that there are, and such as there aren't beside them
    private static final String MIXED = "p. q(a). r(b,c). s(A):q(A),not r(A,A). t:p,not u.";
    private static final int[] THERE = {0, 100, 120, 200, 222, 300, 320, 400, 500};
    private static final int[] NOT_THERE = {1, 10, 101, 130, 203, 223, 230, 301, 330, 401, 501, 600};

    private BoundaryPromises16To27Test() {
    }

    public static void main(String[] args) {
        why();
        whyFact();
        whyNone();
        becauseTerms();
        becauseLatest();
        comes();
        comesNone();
        rule();
        ruleIdleSpare();
        ruleNone();
        term();
        termArgs();
        termNone();
        go();
        goNotEnough();
        goNone();
        goTooMany();
        goUntellsNothing();
        gone();
        goneLatest();
        derived();
        deepest();
        turnedMore();
        turnedLess();
        turnedNone();
        turnedChangesNothing();
        count();
        countLayers();
        countNone();
        trouble();
        Boundary.end("BoundaryPromises16To27Test");
    }

    private static void why() {
        Boundary.of("Promise 16", "WHY an ATOM FOLLOWS: the RULE");
        RuleCourt x = Checks.court("a. b:a. c:b. d:not e.");
        Boundary.still("the first RULE", x.why(100), 0);
        Boundary.still("the next", x.why(200), 1);
        Boundary.still("the last", x.why(300), 2);
        Boundary.still("trouble", x.trouble(), 0);
        x.drop(0);
        Boundary.beyond("its RULE", x.why(100), -1);
        Boundary.still("one number less", x.why(300), 1);
        RuleCourt full = Checks.court("p:z.p:z.p:z.p:z.p:z.p:z.p:z.p:z.p:z.p:z.",
            "p:z.p:z.p:z.p:z.p:z.p:z.p:z.p:z.p:z.q:y.y.");
        Boundary.still("the twentieth RULE", full.why(200), 19);
    }

    private static void whyFact() {
        Boundary.of("Promise 16", "-2 if it is a FACT.");
        RuleCourt x = Checks.court("a. b:a.");
        Boundary.still("a FACT", x.why(0), -2);
        Boundary.still("trouble", x.trouble(), 0);
        x.fact(100, true);
        Boundary.still("a FACT and by a RULE", x.why(100), -2);
        x.fact(100, false);
        Boundary.beyond("a FACT", x.why(100), 0);
    }

    private static void whyNone() {
        Boundary.of("Promise 16", "NONE: 1; 5.");
        RuleCourt x = Checks.court(MIXED);
        for (int atom : THERE) {
            int follows = x.follows(atom);
            int got = x.why(atom);
            Boundary.still("ATOM " + atom, got == -1, follows == 0);
            Boundary.still("trouble of " + atom, x.trouble(), follows == 0 ? 5 : 0);
        }
        for (int atom : NOT_THERE) {
            Boundary.beyond("ATOM " + atom, x.why(atom), -1);
            Boundary.beyond("trouble of " + atom, x.trouble(), 1);
        }
        for (int atom : FAR) {
            x.why(0);
            Boundary.beyond("ATOM " + atom, x.why(atom), -1);
            Boundary.beyond("trouble of " + atom, x.trouble(), 1);
        }
    }

    private static void becauseTerms() {
        Boundary.of("Promise 17", "the ATOM of its TERM i; -2 of a # ; NONE.");
        RuleCourt x = Checks.court("q(j,i). p(A):q(A,B),A#B,not r(B,A),q(j,B). s:t. t.",
            "u(a).u(b).u(c).u(d).u(e).u(f).u(g).u(h).");
        Boundary.beyond("a why ahead of it", x.because(0), -1);
        // THINGS: j 0, i 1
        Boundary.still("why", x.why(100), 0);
        int[] due = {1, -2, 210, 1};
        for (int i = 0; i < due.length; i++) {
            Boundary.still("TERM " + i, x.because(i), due[i]);
        }
        Boundary.beyond("the last TERM", x.because(4), -1);
        Boundary.beyond("the first TERM", x.because(-1), -1);
        for (int far : FAR) {
            Boundary.beyond("TERM " + far, x.because(far), -1);
        }
        Boundary.still("why of one TERM", x.why(300), 1);
        Boundary.still("it", x.because(0), 400);
        Boundary.beyond("the only TERM", x.because(1), -1);
        Boundary.beyond("the only TERM", x.because(3), -1);
        // An ATOM of no PLACES that is refused
        RuleCourt y = Checks.court("p:not q.");
        y.why(0);
        Boundary.still("a refused ATOM", y.because(0), 100);
    }

    private static void becauseLatest() {
        Boundary.of("Promise 17", "By the latest why() that told a RULE");
        RuleCourt x = Checks.court("a. b:a. c:b,a. d:e.");
        x.why(200);
        Boundary.still("that one", x.because(0), 100);
        Boundary.still("trouble of a FACT's why", x.why(0), -2);
        Boundary.still("behind a FACT's", x.because(0), 100);
        x.why(300);
        Boundary.still("behind one refused by 5", x.because(1), 0);
        x.why(999);
        Boundary.still("behind one refused by 1", x.because(0), 100);
        x.fact(0, false);
        x.drop(1);
        Checks.tell(x, "f. c:f,f,f.");
        x.steps(200);
        Boundary.still("behind changes", x.because(0), 100);
        Boundary.still("behind changes", x.because(2), -1);
        Boundary.beyond("the latest", x.why(200), 2);
        Boundary.beyond("the latest", x.because(0), 500);
        Boundary.beyond("the latest", x.because(2), 500);
    }

    private static void comes() {
        Boundary.of("Promise 18", "COMES of a RULE for an ATOM.");
        RuleCourt x = Checks.court("a. b:a,c,d,e.");
        Boundary.still("one", x.comes(0, 100), 1);
        x.fact(200, true);
        x.fact(400, true);
        Boundary.still("two", x.comes(0, 100), 2);
        x.fact(300, true);
        Boundary.still("all", x.comes(0, 100), 4);
        x.fact(0, false);
        Boundary.beyond("any", x.comes(0, 100), 0);
        Boundary.beyond("any", x.trouble(), 0);
    }

    private static void comesNone() {
        Boundary.of("Promise 18", "NONE: 1 (RULE, ATOM, another KIND than its first).");
        RuleCourt x = Checks.court(MIXED);
        Boundary.still("the last ATOM of its KIND", x.comes(0, 320), 0);
        Boundary.still("the last RULE", x.comes(1, 400), 2);
        Boundary.still("trouble", x.trouble(), 0);
        int[] atoms = {330, 321, 301, 331};
        for (int atom : atoms) {
            Boundary.beyond("ATOM " + atom, x.comes(0, atom), -1);
            Boundary.beyond("trouble of " + atom, x.trouble(), 1);
        }
        for (int kind : new int[] {0, 100, 200, 400, 500, 600}) {
            x.comes(0, 300);
            Boundary.beyond("its KIND", x.comes(0, kind), -1);
            Boundary.beyond("trouble", x.trouble(), 1);
        }
        Boundary.beyond("the last RULE", x.comes(2, 400), -1);
        Boundary.beyond("trouble", x.trouble(), 1);
        Boundary.beyond("the first RULE", x.comes(-1, 300), -1);
        for (int far : FAR) {
            x.comes(0, 300);
            Boundary.beyond("RULE " + far, x.comes(far, 300), -1);
            Boundary.beyond("trouble of " + far, x.trouble(), 1);
            x.comes(0, 300);
            Boundary.beyond("ATOM " + far, x.comes(0, far), -1);
            Boundary.beyond("trouble of " + far, x.trouble(), 1);
        }
    }

    private static void rule() {
        Boundary.of("Promise 19", "Of a RULE what 0 its first KIND, 1 TERMS, 2 SIGNS");
        RuleCourt x = Checks.court("p:q. r(A,B):s(A,C),s(B,C),A#B,not t. u(A):v(A,A).");
        int[][] due = {{0, 1, 0}, {2, 4, 3}, {5, 1, 1}};
        for (int r = 0; r < 3; r++) {
            for (int what = 0; what < 3; what++) {
                Boundary.still("RULE " + r + " what " + what, x.rule(r, what), due[r][what]);
            }
        }
        Boundary.beyond("what 0", x.rule(0, -1), -1);
        Boundary.beyond("the last RULE", x.rule(3, 0), -1);
    }

    private static void ruleIdleSpare() {
        Boundary.of("Promise 19", "3 whether it is IDLE (1), 4 whether it is SPARE (1).");
        RuleCourt x = Checks.court("a. b:a. b:c. d:a.");
        int[][] due = {{0, 0}, {1, 1}, {0, 0}};
        for (int r = 0; r < 3; r++) {
            Boundary.still("IDLE " + r, x.rule(r, 3), due[r][0]);
            Boundary.still("SPARE " + r, x.rule(r, 4), due[r][1]);
        }
        x.fact(200, true);
        Boundary.beyond("IDLE", x.rule(1, 3), 0);
        Boundary.still("SPARE, though not IDLE", x.rule(1, 4), 1);
        Boundary.still("now the other too", x.rule(0, 4), 1);
        x.fact(0, false);
        Boundary.beyond("SPARE", x.rule(1, 4), 0);
        Boundary.still("IDLE now", x.rule(0, 3), 1);
        // Asking changes nothing.
        Boundary.still("RULES", x.count(2), 3);
        Boundary.still("what FOLLOWS", x.follows(100), 1);
    }

    private static void ruleNone() {
        Boundary.of("Promise 19", "4 whether it is SPARE (1). NONE.");
        RuleCourt x = Checks.court("a. b:a. c:b.");
        for (int what = 0; what < 5; what++) {
            Boundary.still("the last RULE, what " + what, x.rule(1, what) >= 0, true);
            Boundary.beyond("the last RULE, what " + what, x.rule(2, what), -1);
            Boundary.beyond("the first RULE, what " + what, x.rule(-1, what), -1);
            for (int far : FAR) {
                Boundary.beyond("RULE " + far + " what " + what, x.rule(far, what), -1);
            }
        }
        Boundary.beyond("what 4", x.rule(0, 5), -1);
        for (int far : FAR) {
            Boundary.beyond("what " + far, x.rule(0, far), -1);
        }
        RuleCourt full = Checks.court("p:z.p:z.p:z.p:z.p:z.p:z.p:z.p:z.p:z.p:z.",
            "p:z.p:z.p:z.p:z.p:z.p:z.p:z.p:z.p:z.q:z.");
        Boundary.still("the twentieth", full.rule(19, 0), 2);
        Boundary.beyond("the twentieth", full.rule(20, 0), -1);
    }

    private static void term() {
        Boundary.of("Promise 20", "what 0: 0 ATOM, 1 not, 2 # ; 1 its KIND (NONE of # )");
        RuleCourt x = Checks.court("p(A):q(A,a),not r,A#b,s.");
        int[][] due = {{0, 1}, {1, 2}, {2, -1}, {0, 3}};
        for (int i = 0; i < 3; i++) {
            Boundary.still("TERM " + i, x.term(0, i, 0), due[i][0]);
            Boundary.still("its KIND", x.term(0, i, 1), due[i][1]);
        }
        Boundary.still("the last TERM", x.term(0, 3, 1), 3);
        Boundary.beyond("the last TERM", x.term(0, 4, 0), -1);
        Boundary.beyond("the last TERM", x.term(0, 4, 1), -1);
        Boundary.beyond("the first TERM", x.term(0, -1, 0), -1);
    }

    private static void termArgs() {
        Boundary.of("Promise 20", "2 its first ARG, 3 its second: a THING, 100 and the SIGN's place"
            + " among the RULE's (by where they first stand), NONE without.");
        RuleCourt x = Checks.court("z(a,b).z(c,d).z(e,f).z(g,h).z(i,j). p(C,j):q(C,B),A#a,r(A),q(B,j).");
        int[][] due = {{100, 101}, {102, 0}, {102, -1}, {101, 9}};
        for (int i = 0; i < 4; i++) {
            Boundary.still("first ARG of TERM " + i, x.term(0, i, 2), due[i][0]);
            Boundary.still("second ARG of TERM " + i, x.term(0, i, 3), due[i][1]);
        }
        RuleCourt y = Checks.court("p:q. p:r(H). p:s(H,A),r(A). p:a#b.");
        Boundary.beyond("ARGS", y.term(0, 0, 2), -1);
        Boundary.beyond("ARGS", y.term(0, 0, 3), -1);
        Boundary.still("one ARG", y.term(1, 0, 2), 100);
        Boundary.beyond("one ARG", y.term(1, 0, 3), -1);
        Boundary.still("H stands first", y.term(2, 0, 2), 100);
        Boundary.still("A behind it", y.term(2, 0, 3), 101);
        Boundary.still("THINGS of a #", y.term(3, 0, 2), 0);
        Boundary.still("THINGS of a #", y.term(3, 0, 3), 1);
    }

    private static void termNone() {
        Boundary.of("Promise 20", "NONE without. NONE.");
        RuleCourt x = Checks.court("p:q(a,b). p:q(b,a),q(a,a).");
        for (int what = 0; what < 4; what++) {
            Boundary.still("what " + what, x.term(1, 1, what) >= 0, true);
            Boundary.beyond("the last TERM, what " + what, x.term(1, 2, what), -1);
            Boundary.beyond("the other RULE's TERM, what " + what, x.term(0, 1, what), -1);
            Boundary.beyond("the last RULE, what " + what, x.term(2, 0, what), -1);
            for (int far : FAR) {
                Boundary.beyond("RULE " + far, x.term(far, 0, what), -1);
                Boundary.beyond("TERM " + far, x.term(0, far, what), -1);
            }
        }
        Boundary.beyond("what 3", x.term(0, 0, 4), -1);
        for (int far : FAR) {
            Boundary.beyond("what " + far, x.term(0, 0, far), -1);
        }
        // A RULE that was longer and is gone leaves no TERMS behind.
        RuleCourt y = Checks.court("p:q,q,q,q.");
        y.drop(0);
        Boundary.beyond("a dropped RULE", y.term(0, 0, 0), -1);
        Checks.tell(y, "p:q.");
        Boundary.still("one TERM", y.term(0, 0, 0), 0);
        Boundary.beyond("one TERM", y.term(0, 1, 0), -1);
        Checks.tell(y, "p:q,q,q!");
        Boundary.beyond("a refused RULE", y.term(1, 0, 0), -1);
    }

    private static void go() {
        Boundary.of("Promise 21", "GO of an ATOM: how many");
        RuleCourt x = Checks.court("a. b. c. d:a. e:a. e:b. f:a. f:b. f:c.");
        Boundary.still("one", x.go(300), 1);
        Boundary.still("two", x.go(400), 2);
        Boundary.still("three", x.go(500), 3);
        Boundary.still("a FACT", x.go(200), 1);
        Boundary.still("trouble", x.trouble(), 0);
        x.fact(100, false);
        Boundary.beyond("two", x.go(400), 1);
        Boundary.beyond("three", x.go(500), 2);
    }

    private static void goNotEnough() {
        Boundary.of("Promise 21", "-2 if 3 aren't enough");
        RuleCourt x = Checks.court("p(a).p(b).p(c). g:p(A). h:not i.");
        Boundary.still("three", x.go(100), 3);
        Checks.tell(x, "p(d).");
        Boundary.beyond("three", x.go(100), -2);
        Boundary.beyond("trouble", x.trouble(), 0);
        Boundary.beyond("no FACTS for it", x.go(200), -2);
        Boundary.beyond("trouble", x.trouble(), 0);
        x.fact(0, false);
        Boundary.still("three again", x.go(100), 3);
        Boundary.still("p(b)", x.gone(0), 10);
    }

    private static void goNone() {
        Boundary.of("Promise 21", "NONE: 1; 5 (it doesn't FOLLOW)");
        RuleCourt x = Checks.court(MIXED);
        for (int atom : THERE) {
            int follows = x.follows(atom);
            int got = x.go(atom);
            Boundary.still("ATOM " + atom, got == -1, follows == 0);
            Boundary.still("trouble of " + atom, x.trouble(), follows == 0 ? 5 : 0);
        }
        for (int atom : NOT_THERE) {
            Boundary.beyond("ATOM " + atom, x.go(atom), -1);
            Boundary.beyond("trouble of " + atom, x.trouble(), 1);
        }
        for (int atom : FAR) {
            x.go(0);
            Boundary.beyond("ATOM " + atom, x.go(atom), -1);
            Boundary.beyond("trouble of " + atom, x.trouble(), 1);
        }
    }

    private static void goTooMany() {
        Boundary.of("Promise 21", "5 (it doesn't FOLLOW); 6.");
        RuleCourt x = Checks.court("p(a).p(b).p(c).p(d).p(e).p(f).p(g).p(h).p(i).p(j).q(a).q(b).",
            "r:p(a). s:t.");
        Boundary.still("12 FACTS", x.go(200), 1);
        Boundary.still("trouble", x.trouble(), 0);
        x.fact(120, true);
        Boundary.beyond("12 FACTS", x.go(200), -1);
        Boundary.beyond("trouble", x.trouble(), 6);
        Boundary.beyond("12, it doesn't FOLLOW", x.go(300), -1);
        Boundary.beyond("trouble", x.trouble(), 5);
        Boundary.beyond("12, there is none such", x.go(301), -1);
        Boundary.beyond("trouble", x.trouble(), 1);
        x.fact(110, false);
        Boundary.still("12 FACTS", x.go(200), 1);
        Boundary.still("trouble", x.trouble(), 0);
    }

    private static void goUntellsNothing() {
        Boundary.of("Promise 21", "(Nothing is untold.)");
        RuleCourt x = Checks.court("a. b. c. d:a. d:b. d:c. e:not d.");
        Boundary.still("three", x.go(300), 3);
        Boundary.still("FACTS", x.count(3), 3);
        for (int k = 0; k < 3; k++) {
            Boundary.still("FACT " + k, x.follows(k * 100), 2);
        }
        Boundary.still("it FOLLOWS", x.follows(300), 1);
        Boundary.still("STEPS", x.steps(300), 1);
        Boundary.still("its refusal", x.follows(400), 0);
        Boundary.still("derived", x.derived(), 1);
        for (int i = 0; i < 3; i++) {
            x.fact(x.gone(i), false);
        }
        Boundary.beyond("untold by fact", x.follows(300), 0);
        Boundary.beyond("its refusal", x.follows(400), 1);
    }

    private static void gone() {
        Boundary.of("Promise 22", "The i-th FACT's ATOM");
        RuleCourt x = Checks.court("c. b. a. d:a. e:a. e:b. f:a. f:b. f:c.");
        int[][] due = {{200}, {100, 200}, {0, 100, 200}};
        for (int size = 1; size <= 3; size++) {
            Boundary.still("go", x.go((2 + size) * 100), size);
            for (int i = 0; i < size; i++) {
                Boundary.still("FACT " + i + " of " + size, x.gone(i), due[size - 1][i]);
            }
            Boundary.beyond("the last of " + size, x.gone(size), -1);
            Boundary.beyond("the first of " + size, x.gone(-1), -1);
            for (int far : FAR) {
                Boundary.beyond("i " + far, x.gone(far), -1);
            }
        }
        Boundary.still("one again", x.go(300), 1);
        Boundary.beyond("one", x.gone(1), -1);
        Boundary.beyond("one", x.gone(2), -1);
    }

    private static void goneLatest() {
        Boundary.of("Promise 22", "of the latest go() that told more than 0; NONE.");
        RuleCourt x = Checks.court("a. b. c. d. e:a. f:a. f:b. f:c. f:d. g:not z.");
        Boundary.beyond("a go ahead of it", x.gone(0), -1);
        x.go(500);
        Boundary.beyond("a go that told -2", x.gone(0), -1);
        x.go(400);
        Boundary.still("one", x.gone(0), 0);
        x.go(500);
        Boundary.still("behind one that told -2", x.gone(0), 0);
        x.go(600);
        Boundary.still("behind another", x.gone(0), 0);
        x.go(999);
        Boundary.still("behind one refused by 1", x.gone(0), 0);
        x.go(700);
        Boundary.still("behind one refused by 5", x.gone(0), 0);
        x.fact(0, false);
        x.drop(0);
        x.turned(0, true);
        x.rule(0, 4);
        Boundary.still("behind changes", x.gone(0), 0);
        x.go(500);
        Boundary.beyond("the latest", x.gone(0), 100);
        Boundary.beyond("the latest", x.gone(2), 300);
    }

    private static void derived() {
        Boundary.of("Promise 23", "how many ATOMS FOLLOW that aren't FACTS");
        RuleCourt x = Checks.court("a. b. c:a. d:c. e:not f.");
        Boundary.still("three", x.derived(), 3);
        x.fact(200, true);
        Boundary.beyond("one that is a FACT now", x.derived(), 2);
        x.fact(0, false);
        Boundary.still("still two", x.derived(), 2);
        x.fact(200, false);
        Boundary.beyond("what FOLLOWS", x.derived(), 1);
        Boundary.still("FACTS alone", Checks.court("a. b(c).").derived(), 0);
        Boundary.still("nothing", new RuleCourt().derived(), 0);
        RuleCourt most = Checks.court(
            "j(a,a).j(b,b).j(c,c).j(d,d).j(e,e).j(f,f).j(g,g).j(h,h).j(i,i).j(j,j).",
            "j(A,B):j(A,A),j(B,B).a(A,B):j(A,B).b(A,B):j(A,B).c(A,B):j(A,B).d(A,B):j(A,B).",
            "e(A,B):j(A,B).f(A,B):j(A,B).g(A,B):j(A,B).h(A,B):j(A,B).i(A,B):j(A,B).");
        Boundary.still("all of 1,000 but ten FACTS", most.derived(), 990);
    }

    private static void deepest() {
        Boundary.of("Promise 24", "The most STEPS that an ATOM has (0 if none FOLLOWS).");
        RuleCourt x = Checks.court("a. b:a. c:b. d:c. d:a. e:z.");
        Boundary.still("the most", x.deepest(), 2);
        x.drop(3);
        Boundary.beyond("two", x.deepest(), 3);
        x.fact(200, true);
        Boundary.still("one", x.deepest(), 1);
        x.fact(300, true);
        x.fact(100, true);
        Boundary.still("FACTS alone", x.deepest(), 0);
        for (int k = 0; k < 4; k++) {
            x.fact(k * 100, false);
        }
        Boundary.still("none FOLLOWS", x.deepest(), 0);
        Boundary.still("a new object", new RuleCourt().deepest(), 0);
        // The first ATOM of all is the deepest.
        RuleCourt z = Checks.court("a:b. b.");
        Boundary.still("ATOM 0", z.deepest(), 1);
        z.fact(0, true);
        Boundary.beyond("a FACT", z.deepest(), 0);
        // The last ATOM of all is the deepest.
        RuleCourt y = Checks.court("a(a,b).a(c,d).a(e,f).a(g,h).a(i,j). b:c. d:c. e:c. f:c. g:c. h:c.",
            "i:c. j(j,j):a(a,b).");
        Boundary.still("ATOM 999", y.deepest(), 1);
        y.drop(7);
        Boundary.beyond("without it", y.deepest(), 0);
    }

    private static void turnedMore() {
        Boundary.of("Promise 25", "How many ATOMS would FOLLOW that don't");
        RuleCourt x = Checks.court("a. c:b. d:c. e:not c. f:a.");
        // KINDS: a 0, c 1, b 2, d 3, e 4, f 5
        Boundary.still("b told: b, c, d", x.turned(200, false), 3);
        Boundary.still("c told: c, d", x.turned(100, false), 2);
        Boundary.still("a untold: none", x.turned(0, false), 0);
        Boundary.still("f, that FOLLOWS, told: none", x.turned(500, false), 0);
        x.fact(100, true);
        Boundary.beyond("b told now: b alone", x.turned(200, false), 1);
        Boundary.beyond("c untold now: e", x.turned(100, false), 1);
    }

    private static void turnedLess() {
        Boundary.of("Promise 25",
            "(or not any more that do), if an ATOM were turned about as a FACT");
        RuleCourt x = Checks.court("a. c:b. d:c. e:not c. f:a.");
        Boundary.still("b told: e", x.turned(200, true), 1);
        Boundary.still("d told: none", x.turned(300, true), 0);
        Boundary.still("a untold: a, f", x.turned(0, true), 2);
        Boundary.still("f told: none", x.turned(500, true), 0);
        x.fact(500, true);
        Boundary.beyond("a untold, f a FACT: a", x.turned(0, true), 1);
        Boundary.beyond("f untold, it FOLLOWS: none", x.turned(500, true), 0);
        x.fact(0, false);
        Boundary.beyond("f untold, now alone", x.turned(500, true), 1);
    }

    private static void turnedNone() {
        Boundary.of("Promise 25", "NONE (1).");
        RuleCourt x = Checks.court(MIXED);
        for (boolean lost : new boolean[] {true, false}) {
            for (int atom : THERE) {
                Boundary.still("ATOM " + atom, x.turned(atom, lost) >= 0, true);
                Boundary.still("trouble of " + atom, x.trouble(), 0);
            }
            for (int atom : NOT_THERE) {
                Boundary.beyond("ATOM " + atom, x.turned(atom, lost), -1);
                Boundary.beyond("trouble of " + atom, x.trouble(), 1);
            }
            for (int atom : FAR) {
                x.turned(0, lost);
                Boundary.beyond("ATOM " + atom, x.turned(atom, lost), -1);
                Boundary.beyond("trouble of " + atom, x.trouble(), 1);
            }
        }
    }

    private static void turnedChangesNothing() {
        Boundary.of("Promise 25", "(Nothing is changed.)");
        RuleCourt x = Checks.court("a. b:a. c:not b. d:e.");
        for (int atom = 0; atom <= 400; atom += 100) {
            x.turned(atom, true);
            x.turned(atom, false);
            Boundary.still("FACTS", x.count(3), 1);
            Boundary.still("a", x.follows(0), 2);
            Boundary.still("b", x.follows(100), 1);
            Boundary.still("b's STEPS", x.steps(100), 1);
            Boundary.still("c", x.follows(200), 0);
            Boundary.still("d", x.follows(300), 0);
            Boundary.still("derived", x.derived(), 1);
        }
        x.fact(0, false);
        Boundary.beyond("changed by fact", x.follows(200), 1);
        Boundary.beyond("changed by fact", x.derived(), 1);
        Boundary.beyond("changed by fact", x.follows(100), 0);
    }

    private static void count() {
        Boundary.of("Promise 26", "0 THINGS, 1 KINDS, 2 RULES, 3 FACTS, 4 bytes of THE TAPE, 5 LAYERS");
        RuleCourt x = new RuleCourt();
        for (int what = 0; what < 6; what++) {
            Boundary.still("of a new object, what " + what, x.count(what), 0);
        }
        Checks.tell(x, "p(a). p(b). p(c). q:p(A). r:not q. s:r,not q. s:not r.");
        x.feed(0, 0, 0, 0, 0);
        x.feed(0, 0, 0, 0, 0);
        int[] due = {3, 4, 4, 3, 40, 3};
        for (int what = 0; what < 6; what++) {
            Boundary.still("what " + what, x.count(what), due[what]);
        }
        x.fact(0, false);
        x.drop(3);
        x.tell(0);
        int[] then = {3, 4, 3, 2, 0, 2};
        for (int what = 0; what < 6; what++) {
            Boundary.beyond("what it was, what " + what, x.count(what), then[what]);
        }
    }

    private static void countLayers() {
        Boundary.of("Promise 26", "(1 more than the greatest; 0 without KINDS)");
        RuleCourt x = new RuleCourt();
        Boundary.still("without KINDS", x.count(5), 0);
        Checks.tell(x, "p(");
        Boundary.still("a refused text", x.count(5), 0);
        Checks.tell(x, "p.");
        Boundary.beyond("one KIND", x.count(5), 1);
        Checks.tell(x, "q:p.");
        Boundary.still("the same LAYER", x.count(5), 1);
        Checks.tell(x, "r:not q.");
        Boundary.beyond("one more", x.count(5), 2);
        x.drop(1);
        Boundary.still("without that RULE", x.count(5), 1);
    }

    private static void countNone() {
        Boundary.of("Promise 26", "NONE for others.");
        RuleCourt x = Checks.court("p(a).");
        Boundary.still("what 0", x.count(0), 1);
        Boundary.still("what 5", x.count(5), 1);
        Boundary.beyond("what 0", x.count(-1), -1);
        Boundary.beyond("what 5", x.count(6), -1);
        for (int far : FAR) {
            Boundary.beyond("what " + far, x.count(far), -1);
        }
    }

    private static void trouble() {
        Boundary.of("Promise 27", "TROUBLE.");
        RuleCourt x = new RuleCourt();
        Boundary.still("a new object", x.trouble(), 0);
        x.tell(1);
        Boundary.beyond("a call that wasn't refused", x.trouble(), 2);
        Boundary.beyond("asked again", x.trouble(), 2);
        Checks.tell(x, "p");
        Boundary.beyond("a call that wasn't refused", x.trouble(), 4);
        Checks.tell(x, "p.");
        Boundary.still("a call that wasn't refused", x.trouble(), 0);
        x.drop(0);
        Boundary.beyond("a call that wasn't refused", x.trouble(), 1);
    }
}
