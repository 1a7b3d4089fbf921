/** Each promise by itself: ordinary inputs, the edges that the document names, wrong inputs. */
public final class PromiseTest {
    private static final int[] WRONG = {-1, -2, 10, 11, 100, Integer.MIN_VALUE, Integer.MAX_VALUE};
    private static final int[] WRONG_ATOMS =
        {-1, -100, 4, 40, 140, 201, 299, 400, 999, 1000, Integer.MIN_VALUE, Integer.MAX_VALUE};

    private static final String GRAPH = "edge(a,b). edge(b,c). edge(c,d). path(A,B): edge(A,B). "
        + "path(A,B): edge(A,C), path(C,B). node(A): edge(A,B). node(B): edge(A,B). "
        + "far(A,B): node(A), node(B), not path(A,B), A # B.";

    private PromiseTest() {
    }

    public static void main(String[] args) {
        newObject();
        feed();
        tell();
        faultAndWhere();
        atom();
        name();
        placesAndLayer();
        fact();
        drop();
        follows();
        manyAndOne();
        steps();
        why();
        because();
        comes();
        comesWithFreeSigns();
        rule();
        idleAndSpare();
        term();
        go();
        goWithRefusals();
        goBounds();
        gone();
        derivedAndDeepest();
        turned();
        count();
        trouble();
        bounds();
        Checks.end("PromiseTest");
    }

    private static void due(String what, long got, long want) {
        Checks.due(what, got, want);
    }

    private static void newObject() {
        RuleCourt x = new RuleCourt();
        for (int what = 0; what < 6; what++) {
            due("1: count " + what, x.count(what), 0);
        }
        due("1: trouble", x.trouble(), 0);
        due("1: fault", x.fault(), 0);
        due("1: where", x.where(), -1);
        due("1: derived", x.derived(), 0);
        due("1: deepest", x.deepest(), 0);
        due("1: because", x.because(0), -1);
        due("1: gone", x.gone(0), -1);
        due("1: follows", x.follows(0), -1);
        due("1: many", x.many(0), -1);
        due("1: one", x.one(0, 0), -1);
        due("1: steps", x.steps(0), -1);
        due("1: atom", x.atom(0, 0, 0), -1);
        due("1: rule", x.rule(0, 0), -1);
        due("1: term", x.term(0, 0, 0), -1);
        due("1: places", x.places(0), -1);
        due("1: layer", x.layer(0), -1);
        due("1: name", Checks.name(x, 0, 0, true), -2);
    }

    private static void feed() {
        RuleCourt x = new RuleCourt();
        for (int i = 1; i <= 20; i++) {
            due("2: feed " + i, x.feed(0x70282861, -1, 0, i, 0x20202020), 20 * i);
        }
        due("2: feed to a full TAPE", x.feed(0, 0, 0, 0, 0), -1);
        due("2: a full TAPE", x.count(4), 400);
        due("2: the highest byte comes first", x.tell(400), -1);
        due("2: the place of the second (", x.where(), 2);
        due("2: an empty TAPE", x.count(4), 0);
        due("2: feed again", x.feed(0x702e0a20, 0x20202020, 0x20202020, 0x20202020, 0x712e7272), 20);
        due("2: the fifth number", x.tell(18), 2);
        due("2: its KIND", Checks.name(x, 1, 0, true), 'q');
        x.feed(0x702e2020, 0x20202020, 0x20202020, 0x20202020, 0xf02e2020);
        due("2: a byte above 127", x.tell(20), -1);
        due("2: its place", x.where(), 16);
        RuleCourt y = Checks.court("p.");
        for (int i = 1; i <= 20; i++) {
            y.feed(0x20202020, 0x20202020, 0x20202020, 0x20202020, 0x20702e20);
        }
        due("2: a full TAPE is a TEXT", y.tell(400), 20);
    }

    private static void tell() {
        RuleCourt x = new RuleCourt();
        due("3: p. q. p.", Checks.tell(x, "p. q. p."), 3);
        due("3: FACTS", x.count(3), 2);
        due("3: again", Checks.tell(x, "q.\n\nr(a)."), 2);
        due("3: FACTS that are there stay", x.count(3), 3);
        due("3: a RULE twice", Checks.tell(x, "r(A):r(A).r(A):r(A)."), 2);
        due("3: RULES", x.count(2), 2);
        Checks.feed(x, "s. t.".getBytes());
        due("3: n below 0", x.tell(-1), -1);
        due("3: trouble", x.trouble(), 2);
        due("3: n above", x.tell(21), -1);
        due("3: trouble", x.trouble(), 2);
        due("3: THE TAPE stays", x.count(4), 20);
        due("3: n least", x.tell(Integer.MIN_VALUE), -1);
        due("3: n most", x.tell(Integer.MAX_VALUE), -1);
        due("3: the first bytes alone", x.tell(2), 1);
        due("3: trouble", x.trouble(), 0);
        due("3: THE TAPE is empty", x.count(4), 0);
        due("3: KINDS", x.count(1), 4);
        Checks.feed(x, "u. v".getBytes());
        due("3: a FAULT", x.tell(4), -1);
        due("3: trouble", x.trouble(), 4);
        due("3: THE TAPE is empty", x.count(4), 0);
        due("3: refused as a whole", x.count(1), 4);
        RuleCourt y = Checks.court("p(a). p(b).");
        due("3: refused as a whole", Checks.tell(y, "q(c):p(c). p(a). p(d). z. p(e)."
            + "q(A):not q(A),p(A)."), -1);
        due("3: THINGS", y.count(0), 2);
        due("3: KINDS", y.count(1), 1);
        due("3: RULES", y.count(2), 0);
        due("3: FACTS", y.count(3), 2);
        due("3: LAYERS", y.count(5), 1);
        due("3: other PLACES for a KIND that was refused", Checks.tell(y, "q. q:p(a)."), 2);
        due("3: places", y.places(1), 0);
    }

    private static void faultAndWhere() {
        RuleCourt x = new RuleCourt();
        Checks.tell(x, "p. q:");
        due("4: fault", x.fault(), 1);
        due("5: where", x.where(), 5);
        due("4: asked again", x.fault(), 1);
        x.follows(0);
        x.feed(0, 0, 0, 0, 0);
        due("5: a call that can't be refused", x.where(), 5);
        x.tell(21);
        due("4: a tell refused by 2", x.fault(), 1);
        due("5: refused by another number", x.where(), -1);
        x.tell(0);
        due("4: an empty TEXT", x.fault(), 1);
        due("5: its end", x.where(), 0);
        Checks.tell(x, "  \n ");
        due("4: blanks alone", x.fault(), 1);
        due("5: their end", x.where(), 4);
        x.fact(0, true);
        due("4: behind a refused fact", x.fault(), 1);
        due("5: behind a refused fact", x.where(), -1);
        Checks.tell(x, "p.");
        due("4: without one", x.fault(), 0);
        due("5: without one", x.where(), -1);
        Checks.tell(x, "p(a).");
        due("4: PLACES", x.fault(), 2);
        due("5: PLACES", x.where(), 0);
        x.fact(0, true);
        due("5: behind a fact", x.where(), -1);
        due("4: behind a fact", x.fault(), 2);
    }

    private static void atom() {
        RuleCourt x = Checks.court("rain. p(a). e(b,c).");
        due("6: no PLACES", x.atom(0, 0, 0), 0);
        due("6: no PLACES, a first", x.atom(0, 1, 0), -1);
        due("6: no PLACES, a second", x.atom(0, 0, 1), -1);
        due("6: one", x.atom(1, 2, 0), 120);
        due("6: one, a second", x.atom(1, 2, 1), -1);
        due("6: two", x.atom(2, 1, 2), 212);
        due("6: two", x.atom(2, 0, 0), 200);
        due("6: NONE for a PLACE that isn't", x.atom(0, -1, -1), -1);
        due("6: NONE for a second that isn't", x.atom(1, 0, -1), -1);
        for (int wrong : WRONG) {
            due("6: KIND " + wrong, x.atom(wrong, 0, 0), -1);
            due("6: first " + wrong, x.atom(2, wrong, 0), -1);
            due("6: second " + wrong, x.atom(2, 0, wrong), -1);
        }
        due("6: the next KIND", x.atom(3, 0, 0), -1);
        due("6: the next THING", x.atom(2, 3, 0), -1);
        due("6: the next THING", x.atom(2, 0, 3), -1);
        RuleCourt y = Checks.court("q:p(A).");
        due("6: no THINGS", y.atom(0, 0, 0), 0);
        due("6: no THINGS", y.atom(1, 0, 0), -1);
    }

    private static void name() {
        RuleCourt x = Checks.court("longname(not,b). a(abcdefgh).");
        String[] kinds = {"longname", "a"};
        String[] things = {"not", "b", "abcdefgh"};
        for (int k = 0; k < 4; k++) {
            for (int i = -1; i < 10; i++) {
                boolean isKind = k < 2 && i >= 0 && i < kinds[k].length();
                boolean isThing = k < 3 && i >= 0 && i < things[k].length();
                due("7: KIND " + k + " " + i, Checks.name(x, k, i, true),
                    isKind ? kinds[k].charAt(i) : -2);
                due("7: THING " + k + " " + i, Checks.name(x, k, i, false),
                    isThing ? things[k].charAt(i) : -2);
            }
        }
        for (int wrong : WRONG) {
            due("7: KIND " + wrong, Checks.name(x, wrong, 0, true), -2);
            due("7: THING " + wrong, Checks.name(x, wrong, 0, false), -2);
            due("7: letter " + wrong, Checks.name(x, 0, wrong, true), -2);
        }
    }

    private static void placesAndLayer() {
        RuleCourt x = Checks.court("rain. p(a). e(b,c). s:not t. t:not u, v. v: w. w: not z. u.");
        int[] places = {0, 1, 2, 0, 0, 0, 0, 0, 0};
        // rain p e s t u v w z
        int[] layers = {0, 0, 0, 2, 1, 0, 1, 1, 0};
        for (int k = 0; k < 9; k++) {
            due("8: places " + k, x.places(k), places[k]);
            due("9: layer " + k, x.layer(k), layers[k]);
        }
        due("8: the next", x.places(9), -1);
        due("9: the next", x.layer(9), -1);
        for (int wrong : WRONG) {
            due("8: places " + wrong, x.places(wrong), -1);
            due("9: layer " + wrong, x.layer(wrong), -1);
        }
        x.drop(3);
        due("9: t without w's RULE", x.layer(4), 1);
        x.drop(1);
        due("9: s without t's RULE", x.layer(3), 1);
        RuleCourt y = Checks.court("a:b. b:a. b: not c. d: a. e: not d. f: not e. g: not f.",
            "h:not g. i:not h. j: not i.");
        int[] deep = {1, 1, 0, 1, 2, 3, 4, 5, 6, 7};
        for (int k = 0; k < 10; k++) {
            due("9: layer of " + k, y.layer(k), deep[k]);
        }
        due("9: LAYERS", y.count(5), 8);
        RuleCourt z = Checks.court("a:not b.b:not c.c:not d.d:not e.e:not f.f:not g.g:not h."
            + "h:not i.i:not j.");
        due("9: the highest of all", z.layer(0), 9);
        due("9: its LAYERS", z.count(5), 10);
        due("9: it follows", z.follows(0), 1);
        due("9: and the next doesn't", z.follows(100), 0);
    }

    private static void fact() {
        RuleCourt x = Checks.court(GRAPH);
        due("10: told already", x.fact(1, true), 0);
        due("10: untold", x.fact(1, false), 1);
        due("10: untold already", x.fact(1, false), 0);
        due("10: FACTS", x.count(3), 2);
        due("10: it follows no more", x.follows(1), 0);
        due("10: nor what leans on it", x.follows(101), 0);
        due("10: told", x.fact(1, true), 1);
        due("10: it follows", x.follows(101), 1);
        due("10: what follows anyway", x.fact(101, true), 1);
        due("10: is a FACT", x.follows(101), 2);
        due("10: trouble", x.trouble(), 0);
        for (int wrong : WRONG_ATOMS) {
            due("10: fact " + wrong, x.fact(wrong, true), -1);
            due("10: trouble", x.trouble(), 1);
            due("10: fact " + wrong, x.fact(wrong, false), -1);
        }
        due("10: FACTS", x.count(3), 4);
    }

    private static void drop() {
        RuleCourt x = Checks.court("p:q. r:q. s:q, t. q.");
        due("11: drop -1", x.drop(-1) ? 1 : 0, 0);
        due("11: trouble", x.trouble(), 1);
        due("11: drop 3", x.drop(3) ? 1 : 0, 0);
        due("11: drop 1", x.drop(1) ? 1 : 0, 1);
        due("11: trouble", x.trouble(), 0);
        due("11: RULES", x.count(2), 2);
        due("11: the next comes down", x.rule(1, 0), 3);
        due("11: with its TERMS", x.rule(1, 1), 2);
        due("11: the one ahead stays", x.rule(0, 0), 0);
        due("11: it follows no more", x.follows(200), 0);
        due("11: the KIND stays", x.count(1), 5);
        due("11: drop 2", x.drop(2) ? 1 : 0, 0);
        due("11: tell again", Checks.tell(x, "r:p."), 1);
        due("11: behind the others", x.rule(2, 0), 2);
        due("11: it follows again", x.steps(200), 2);
        for (int wrong : new int[] {-1, 3, 20, 21, Integer.MIN_VALUE, Integer.MAX_VALUE}) {
            due("11: drop " + wrong, x.drop(wrong) ? 1 : 0, 0);
        }
        x.drop(0);
        x.drop(0);
        due("11: the last", x.drop(0) ? 1 : 0, 1);
        due("11: none is left", x.count(2), 0);
        due("11: none is left", x.drop(0) ? 1 : 0, 0);
    }

    private static void follows() {
        RuleCourt x = Checks.court(GRAPH);
        due("12: a FACT", x.follows(12), 2);
        due("12: by a RULE", x.follows(113), 1);
        due("12: not", x.follows(131), 0);
        due("12: by a refusal", x.follows(331), 1);
        due("12: unlike", x.follows(333), 0);
        for (int wrong : WRONG_ATOMS) {
            due("12: follows " + wrong, x.follows(wrong), -1);
        }
        RuleCourt y = Checks.court("p(a). q(A):p(A), not r(A). r(A): s(A). s(b). p(b). t: not q(b).");
        due("12: layer by layer", y.follows(100), 1);
        due("12: refused", y.follows(110), 0);
        due("12: a refusal of a refused", y.follows(400), 1);
        RuleCourt z = Checks.court("p:p. q: not p. r:a#b. s:a#a. t: A#B, e(A,B). e(a,a).");
        due("12: nothing follows of itself alone", z.follows(0), 0);
        due("12: so its refusal holds", z.follows(100), 1);
        due("12: unlike THINGS", z.follows(200), 1);
        due("12: the same THING", z.follows(300), 0);
        due("12: the same THING by SIGNS", z.follows(400), 0);
    }

    private static void manyAndOne() {
        RuleCourt x = Checks.court(GRAPH);
        int[] far = {310, 320, 321, 330, 331, 332};
        due("13: far", x.many(3), 6);
        for (int i = 0; i < far.length; i++) {
            due("14: far " + i, x.one(3, i), far[i]);
        }
        due("14: one more", x.one(3, 6), -1);
        due("14: -1", x.one(3, -1), -1);
        due("14: most", x.one(3, Integer.MAX_VALUE), -1);
        due("14: least", x.one(3, Integer.MIN_VALUE), -1);
        due("13: node", x.many(2), 4);
        due("14: node", x.one(2, 3), 230);
        for (int wrong : WRONG) {
            due("13: many " + wrong, x.many(wrong), -1);
            due("14: one " + wrong, x.one(wrong, 0), -1);
        }
        due("13: the next KIND", x.many(4), -1);
        due("14: the next KIND", x.one(4, 0), -1);
        RuleCourt y = Checks.court("p. q: p. r: not p.");
        due("13: one of no PLACES", y.many(1), 1);
        due("14: it", y.one(1, 0), 100);
        due("13: none", y.many(2), 0);
        due("14: none", y.one(2, 0), -1);
    }

    private static void steps() {
        RuleCourt x = Checks.court(GRAPH);
        int[][] want = {{1, 0}, {101, 1}, {102, 2}, {103, 3}, {113, 2}, {200, 1}, {310, 2},
            {2, -2}, {100, -2}, {300, -2}};
        for (int[] row : want) {
            due("15: steps " + row[0], x.steps(row[0]), row[1]);
        }
        for (int wrong : WRONG_ATOMS) {
            due("15: steps " + wrong, x.steps(wrong), -1);
        }
        x.fact(113, true);
        due("15: a FACT has 0", x.steps(113), 0);
        due("15: and makes others less", x.steps(103), 1);
        RuleCourt y = Checks.court("a:not z. b:a. c:b. d:c, not e. d: f. f:g. g:h. h:i. i.");
        due("15: a refusal alone", y.steps(0), 1);
        due("15: the most of the TERMS", y.steps(y.atom(4, 0, 0)), 4);
        due("15: the later RULE by fewer", y.drop(2) ? 1 : 0, 1);
        due("15: now by the other RULE", y.steps(y.atom(4, 0, 0)), 4);
        RuleCourt z = Checks.court("a. b:a. c:b. d:c. e:d. e:b. f:e, not g. f:c. g:h.");
        due("15: the least of two RULES", z.steps(400), 2);
        due("15: in a higher layer", z.steps(500), 3);
        RuleCourt w = Checks.court("t:a#b. u:a#b, not v. s:t, u.");
        due("15: # alone", w.steps(0), 1);
        due("15: # and not", w.steps(100), 1);
        due("15: of both", w.steps(w.atom(3, 0, 0)), 2);
    }

    private static void why() {
        RuleCourt x = Checks.court(GRAPH);
        due("16: a FACT", x.why(1), -2);
        due("16: trouble", x.trouble(), 0);
        due("16: the first RULE", x.why(101), 0);
        due("16: the second", x.why(102), 1);
        due("16: two RULES", x.why(210), 2);
        due("16: the other", x.why(230), 3);
        due("16: doesn't FOLLOW", x.why(131), -1);
        due("16: trouble", x.trouble(), 5);
        due("16: FACT that isn't", x.why(2), -1);
        due("16: trouble", x.trouble(), 5);
        for (int wrong : WRONG_ATOMS) {
            due("16: why " + wrong, x.why(wrong), -1);
            due("16: trouble", x.trouble(), 1);
        }
        RuleCourt y = Checks.court("a. b:a. c:b. c:a. c:a.");
        due("16: fewer STEPS before the first RULE", y.why(200), 2);
        y.fact(200, true);
        due("16: a FACT and by RULES", y.why(200), -2);
    }

    private static void because() {
        // The ways from a to d: by b and by c; SIGNS in their order: A, B, C
        RuleCourt x = Checks.court("e(a,c). e(a,b). e(b,d). e(c,d). w(A,B): e(C,B), e(A,C). "
            + "v(A): e(B,C), e(A,B). u(a): not e(A,b), A # b, e(a,A).");
        due("17: none yet", x.because(0), -1);
        // THINGS: a 0, c 1, b 2, d 3
        due("17: why w(a,d)", x.why(103), 0);
        due("17: by c, the least THING", x.because(0), 13);
        due("17: by c", x.because(1), 1);
        due("17: no third", x.because(2), -1);
        due("17: -1", x.because(-1), -1);
        due("17: why v(a)", x.why(200), 1);
        due("17: e(c,d)", x.because(0), 13);
        due("17: e(a,c)", x.because(1), 1);
        due("17: refused why", x.why(101), -1);
        due("17: the latest that told a RULE", x.because(0), 13);
        due("17: a FACT's why", x.why(1), -2);
        due("17: the latest that told a RULE", x.because(0), 13);
        due("17: why u(a)", x.why(300), 2);
        due("17: the refused ATOM", x.because(0), 12);
        due("17: a #", x.because(1), -2);
        due("17: e(a,c)", x.because(2), 1);
        x.drop(2);
        x.fact(1, false);
        due("17: kept behind changes", x.because(2), 1);
        for (int wrong : WRONG) {
            due("17: because " + wrong, x.because(wrong), -1);
        }
        RuleCourt y = Checks.court("p(a). q(b):p(a). q(A):p(A). r(A,B):q(B),q(A),A#B. "
            + "s(c):r(A,B). s(c):q(A).");
        due("17: the rows of least THINGS", y.why(y.atom(3, 2, 0)), 4);
        due("17: q(a)", y.because(0), 100);
        y.drop(4);
        due("17: of r", y.why(y.atom(3, 2, 0)), 3);
        due("17: r(a,b)", y.because(0), 201);
        // of c(a): by d(b) in 2 STEPS more than by d(c)
        RuleCourt z = Checks.court("f(a). g(b):f(a). d(b):g(b). d(c). c(a):d(A),A#a. f(b).");
        due("17: why c(a)", z.why(300), 2);
        due("17: the fewest STEPS before the least THINGS", z.because(0), 220);
    }

    private static void comes() {
        RuleCourt x = Checks.court(GRAPH);
        due("18: none", x.comes(0, 100), 0);
        due("18: all", x.comes(0, 101), 1);
        due("18: one of two", x.comes(1, 100), 1);
        due("18: all", x.comes(1, 103), 2);
        due("18: no edge from d", x.comes(1, 130), 0);
        due("18: refusal fails", x.comes(4, 301), 2);
        due("18: unlike fails", x.comes(4, 300), 3);
        due("18: all four", x.comes(4, 310), 4);
        due("18: another KIND", x.comes(0, 200), -1);
        due("18: trouble", x.trouble(), 1);
        due("18: a FACT's KIND", x.comes(0, 1), -1);
        due("18: fine", x.comes(2, 200), 1);
        due("18: trouble", x.trouble(), 0);
        for (int wrong : WRONG_ATOMS) {
            due("18: ATOM " + wrong, x.comes(0, wrong), -1);
            due("18: trouble", x.trouble(), 1);
        }
        for (int wrong : new int[] {-1, 5, 20, Integer.MIN_VALUE, Integer.MAX_VALUE}) {
            due("18: RULE " + wrong, x.comes(wrong, 100), -1);
            due("18: trouble", x.trouble(), 1);
        }
        RuleCourt y = Checks.court("p(a,A): q(A). r(A,A): q(A). q(b). s: q(c), t.");
        due("18: another THING", y.comes(0, 11), -2);
        due("18: trouble", y.trouble(), 0);
        due("18: its THING", y.comes(0, 1), 1);
        due("18: its THING, q not", y.comes(0, 0), 0);
        due("18: twice the same SIGN", y.comes(1, 201), -2);
        due("18: the same THING twice", y.comes(1, 211), 1);
        due("18: no PLACES", y.comes(2, 300), 0);
        y.fact(y.atom(1, 2, 0), true);
        due("18: one more", y.comes(2, 300), 1);
    }

    private static void comesWithFreeSigns() {
        // The first TERM holds for a and b, the others for b only: a THING is chosen for the most.
        RuleCourt x = Checks.court("p:q(A),r(A),s(A),t(A). q(a).q(b).r(b).s(b).t(a).");
        due("18: the best THING", x.comes(0, 0), 3);
        x.fact(x.atom(4, 1, 0), true);
        due("18: all of them", x.comes(0, 0), 4);
        RuleCourt y = Checks.court("p: not q(A), A # a, r(A,B), q(B).");
        due("18: SIGNS that no TERM has told, one THING", y.comes(0, 0), 1);
        Checks.tell(y, "z(b).");
        due("18: now two THINGS", y.comes(0, 0), 2);
        y.fact(y.atom(1, 1, 0), true);
        due("18: refused for b", y.comes(0, 0), 1);
        RuleCourt z = Checks.court("p:not r, q(A). p: q(A), not r. p: not q(A), q(A).");
        due("18: no THINGS, a TERM without SIGNS", z.comes(0, 0), 1);
        due("18: no THINGS", z.comes(1, 0), 0);
        due("18: no THING for a refusal", z.comes(2, 0), 0);
        due("18: IDLE without THINGS", z.rule(0, 3), 1);
    }

    private static void rule() {
        RuleCourt x = Checks.court(GRAPH);
        int[][] want = {{1, 1, 2}, {1, 2, 3}, {2, 1, 2}, {2, 1, 2}, {3, 4, 2}};
        for (int r = 0; r < 5; r++) {
            for (int what = 0; what < 3; what++) {
                due("19: rule " + r + " " + what, x.rule(r, what), want[r][what]);
            }
            due("19: what 5", x.rule(r, 5), -1);
            due("19: what -1", x.rule(r, -1), -1);
            due("19: what least", x.rule(r, Integer.MIN_VALUE), -1);
        }
        for (int wrong : new int[] {-1, 5, 20, 21, Integer.MIN_VALUE, Integer.MAX_VALUE}) {
            for (int what = 0; what < 5; what++) {
                due("19: rule " + wrong, x.rule(wrong, what), -1);
            }
        }
    }

    private static void idleAndSpare() {
        RuleCourt x = Checks.court("p(a). q(A):p(A). q(a):p(a). r(A):p(A),not q(A). s:p(b). "
            + "t:t. u:t. v:not t. w(A):q(A),A#a. w(A):q(A).");
        int[] idle = {0, 0, 1, 1, 1, 1, 0, 1, 0};
        int[] spare = {1, 1, 1, 1, 1, 1, 0, 1, 0};
        for (int r = 0; r < idle.length; r++) {
            due("19: IDLE " + r, x.rule(r, 3), idle[r]);
            due("19: SPARE " + r, x.rule(r, 4), spare[r]);
        }
        x.drop(1);
        due("19: no more SPARE", x.rule(0, 4), 0);
        x.fact(x.atom(1, 0, 0), true);
        due("19: SPARE by a FACT", x.rule(0, 4), 1);
        due("19: RULES stay", x.count(2), 8);
        // Without the first RULE other ATOMS follow, as many as before.
        RuleCourt y = Checks.court("a. b:a. c:a, not b.");
        due("19: not the same, though as many", y.rule(0, 4), 0);
    }

    private static void term() {
        RuleCourt x = Checks.court("p(C,a):q(B,C), not r(a), B # b, s.");
        int[][] want = {{0, 1, 101, 100}, {1, 2, 0, -1}, {2, -1, 101, 1}, {0, 3, -1, -1}};
        for (int i = 0; i < 4; i++) {
            for (int what = 0; what < 4; what++) {
                due("20: term " + i + " " + what, x.term(0, i, what), want[i][what]);
            }
            due("20: what 4", x.term(0, i, 4), -1);
            due("20: what -1", x.term(0, i, -1), -1);
        }
        for (int wrong : new int[] {-1, 4, 5, Integer.MIN_VALUE, Integer.MAX_VALUE}) {
            due("20: TERM " + wrong, x.term(0, wrong, 0), -1);
            due("20: what " + wrong, x.term(0, 0, wrong), -1);
        }
        for (int wrong : new int[] {-1, 1, 20, 21, Integer.MIN_VALUE, Integer.MAX_VALUE}) {
            due("20: RULE " + wrong, x.term(wrong, 0, 0), -1);
        }
        RuleCourt y = Checks.court("p:q(H,A),q(A,B). p:q(a,b). p: a # b.");
        due("20: H first", y.term(0, 0, 2), 100);
        due("20: A next", y.term(0, 1, 2), 101);
        due("20: B last", y.term(0, 1, 3), 102);
        due("20: THINGS", y.term(1, 0, 3), 1);
        due("20: no second TERM", y.term(1, 1, 0), -1);
        due("20: #, its first", y.term(2, 0, 2), 0);
    }

    private static void go() {
        RuleCourt x = Checks.court("e(a,b). e(b,d). e(a,c). e(c,d). w(A,B):e(A,B). "
            + "w(A,B):e(A,C),w(C,B). z.");
        // THINGS: a 0, b 1, d 2, c 3; FACTS: 1, 3, 12, 32 and z
        due("21: two ways", x.go(102), 2);
        due("22: the first", x.gone(0), 1);
        due("22: the second", x.gone(1), 3);
        due("22: no third", x.gone(2), -1);
        due("21: a FACT", x.go(12), 1);
        due("22: itself", x.gone(0), 12);
        due("21: one way", x.go(112), 1);
        due("22: it", x.gone(0), 12);
        due("21: doesn't FOLLOW", x.go(120), -1);
        due("21: trouble", x.trouble(), 5);
        due("22: the latest that told", x.gone(0), 12);
        for (int wrong : new int[] {-1, 4, 104, 201, 210, 300, 999, 1000, Integer.MIN_VALUE}) {
            due("21: go " + wrong, x.go(wrong), -1);
            due("21: trouble", x.trouble(), 1);
        }
        due("21: nothing is untold", x.count(3), 5);
        due("21: nothing is untold", x.follows(112), 1);
        RuleCourt y = Checks.court("g:a. g:b. g:c. g:d. a. b. c. h:a. h:b. h:c. k: not m.");
        due("21: three", y.go(0), 3);
        due("22: the first", y.gone(0), 100);
        due("22: the third", y.gone(2), 300);
        y.fact(400, true);
        due("21: 3 aren't enough", y.go(0), -2);
        due("21: trouble", y.trouble(), 0);
        due("22: the latest that told more than 0", y.gone(2), 300);
        due("21: three of four", y.go(500), 3);
        due("21: without FACTS", y.go(600), -2);
        due("22: kept", y.gone(0), 100);
    }

    private static void goWithRefusals() {
        // g follows while b refuses c; without b it doesn't, nor without a.
        RuleCourt x = Checks.court("z. b. a. g:a, not c. c: not b.");
        due("21: one", x.go(x.atom(3, 0, 0)), 1);
        due("22: b before a by number", x.gone(0), 100);
        // To let m follow, n must go; g has two other ways.
        RuleCourt y = Checks.court("n. o. p. g: not m. g: p. m: not n.");
        due("21: by a refusal and a way", y.go(y.atom(3, 0, 0)), 2);
        due("22: n", y.gone(0), 0);
        due("22: p", y.gone(1), 200);
        // Without b alone d goes on by the other way that b refuses.
        RuleCourt z = Checks.court("a. b. d:b. d:a, not b.");
        due("21: both", z.go(200), 2);
        due("22: a", z.gone(0), 0);
        due("22: b", z.gone(1), 100);
    }

    private static void goBounds() {
        RuleCourt x = Checks.court("p(a).p(b).p(c).p(d).p(e).p(f).p(g).p(h).p(i).p(j).q(a).q(b).",
            "r:p(A),q(A). r:p(j). r:q(b).");
        due("21: 12 FACTS", x.go(200), 3);
        due("22: of as few the first", x.gone(0), 0);
        due("22: the second", x.gone(1), 90);
        due("22: the last of 12", x.gone(2), 110);
        x.fact(120, true);
        due("21: 13 FACTS", x.go(200), -1);
        due("21: trouble", x.trouble(), 6);
        due("22: kept", x.gone(2), 110);
        due("21: 13 FACTS, of another KIND", x.go(0), -1);
        due("21: trouble", x.trouble(), 6);
        due("21: 13 FACTS, doesn't FOLLOW", x.go(190), -1);
        due("21: trouble, 5 before 6", x.trouble(), 5);
        due("21: 13 FACTS, no such", x.go(201), -1);
        due("21: trouble, 1 before 6", x.trouble(), 1);
        x.fact(0, false);
        due("21: 12 again", x.go(200), 3);
        due("22: p(c), before q(c) by number", x.gone(0), 20);
        due("22: p(j)", x.gone(1), 90);
        due("22: q(b)", x.gone(2), 110);
    }

    private static void gone() {
        RuleCourt x = Checks.court("a. b:a.");
        due("22: none yet", x.gone(0), -1);
        due("22: go", x.go(100), 1);
        due("22: it", x.gone(0), 0);
        x.fact(0, false);
        due("22: kept", x.gone(0), 0);
        for (int wrong : new int[] {-1, 1, 2, 3, 4, Integer.MIN_VALUE, Integer.MAX_VALUE}) {
            due("22: gone " + wrong, x.gone(wrong), -1);
        }
    }

    private static void derivedAndDeepest() {
        RuleCourt x = Checks.court(GRAPH);
        due("23: derived", x.derived(), 16);
        due("24: deepest", x.deepest(), 3);
        x.fact(101, true);
        due("23: a FACT that followed", x.derived(), 15);
        RuleCourt y = Checks.court("p. q(a).");
        due("23: FACTS alone", y.derived(), 0);
        due("24: FACTS alone", y.deepest(), 0);
        RuleCourt w = Checks.court("p:q. q.");
        due("23: the least ATOM", w.derived(), 1);
        due("24: the least ATOM", w.deepest(), 1);
        RuleCourt z = Checks.court("s(a,b).s(b,c).s(c,d).s(d,e).s(e,f).s(f,g).s(g,h).s(h,i).s(i,j).",
            "n(a,a).n(A,B):n(A,C),s(C,B).n(A,a):n(B,j),s(B,A).",
            "m(a,a):n(j,j).m(A,B):m(A,C),s(C,B).m(A,a):m(B,j),s(B,A).");
        due("24: two counters of a hundred", z.deepest(), 199);
        due("23: two counters of a hundred", z.derived(), 199);
    }

    private static void turned() {
        RuleCourt x = Checks.court(GRAPH);
        due("25: e(d,a) told", x.turned(30, false), 11);
        due("25: e(d,a) told, lost", x.turned(30, true), 6);
        due("25: trouble", x.trouble(), 0);
        due("25: nothing is changed", x.count(3), 3);
        due("25: nothing is changed", x.many(3), 6);
        // Without e(a,b): itself, p(a,b) p(a,c) p(a,d), n(a), f(b,a) f(c,a) f(d,a)
        due("25: e(a,b) untold, lost", x.turned(1, true), 8);
        due("25: e(a,b) untold", x.turned(1, false), 0);
        due("25: what follows anyway", x.turned(103, false), 0);
        due("25: what follows anyway", x.turned(103, true), 0);
        RuleCourt y = Checks.court("a. c:b. d:c.");
        due("25: b told", y.turned(200, false), 3);
        due("25: c told", y.turned(100, false), 2);
        for (int wrong : WRONG_ATOMS) {
            due("25: turned " + wrong, x.turned(wrong, true), -1);
            due("25: trouble", x.trouble(), 1);
            due("25: turned " + wrong, x.turned(wrong, false), -1);
        }
    }

    private static void count() {
        RuleCourt x = Checks.court(GRAPH);
        x.feed(0, 0, 0, 0, 0);
        int[] want = {4, 4, 5, 3, 20, 2};
        for (int what = 0; what < 6; what++) {
            due("26: count " + what, x.count(what), want[what]);
        }
        for (int wrong : new int[] {-1, 6, 7, Integer.MIN_VALUE, Integer.MAX_VALUE}) {
            due("26: count " + wrong, x.count(wrong), -1);
        }
        RuleCourt y = Checks.court("p.");
        due("26: one LAYER", y.count(5), 1);
        due("26: no THINGS", y.count(0), 0);
    }

    private static void trouble() {
        RuleCourt x = Checks.court("p(a). q:p(a). r.");
        x.drop(7);
        due("27: a refused drop", x.trouble(), 1);
        x.follows(999);
        x.many(-1);
        x.one(0, 99);
        x.steps(-1);
        x.because(9);
        x.gone(9);
        x.rule(9, 9);
        x.term(9, 9, 9);
        x.count(9);
        x.places(9);
        x.layer(9);
        x.atom(9, 9, 9);
        x.derived();
        x.deepest();
        Checks.name(x, 9, 9, true);
        due("27: calls that tell no number", x.trouble(), 1);
        x.fact(0, true);
        due("27: a fact that was so", x.trouble(), 0);
        x.go(0);
        due("27: go", x.trouble(), 0);
        x.why(999);
        due("27: why", x.trouble(), 1);
        x.turned(0, true);
        due("27: turned", x.trouble(), 0);
        x.comes(0, 0);
        due("27: comes", x.trouble(), 1);
        x.comes(0, 100);
        due("27: comes", x.trouble(), 0);
        x.tell(1);
        due("27: tell", x.trouble(), 2);
        x.drop(0);
        due("27: drop", x.trouble(), 0);
    }

    private static void bounds() {
        RuleCourt x = Checks.court("a(j,j).b(i,i).c(h,h).d(g,g).e(f,f).f(e,e).g(d,d).h(c,c).i(b,b)."
            + "j(a,a).");
        due("I: THINGS", x.count(0), 10);
        due("I: KINDS", x.count(1), 10);
        due("I: the highest ATOM", x.follows(999), 2);
        due("I: an ATOM beyond", x.follows(1000), -1);
        for (int r = 0; r < 20; r++) {
            due("I: RULE " + r, Checks.tell(x, "j(A,B):a(A,C),i(C,B),b(B,A),A#B."), 1);
        }
        due("I: RULES", x.count(2), 20);
        due("I: one more", Checks.tell(x, "a(A,B):b(A,B)."), -1);
        due("I: MANY", x.fault(), 4);
        due("I: at its :", x.where(), 6);
        due("I: its last TERM", x.term(19, 3, 0), 2);
        due("I: no RULE beyond", x.rule(20, 0), -1);
        due("I: a FACT still", Checks.tell(x, "a(a,b)."), 1);
        x.drop(0);
        due("I: one again", Checks.tell(x, "a(A,B):b(A,B)."), 1);
        due("I: all of 1000", x.fact(999, false), 1);
        for (int atom = 0; atom < 100; atom++) {
            x.fact(atom, true);
        }
        due("I: a hundred of one KIND", x.many(0), 100);
        due("I: the last of them", x.one(0, 99), 99);
    }
}
