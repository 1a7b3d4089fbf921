/** The boundary cases of the Terms III (what FOLLOWS), IV (GO, IDLE, SPARE) and V (TROUBLE). */
public final class BoundaryFollowsTest {
    private BoundaryFollowsTest() {
    }

    public static void main(String[] args) {
        layers();
        layersLeast();
        layerByLayer();
        rulesInAnyOrder();
        ringsOfRules();
        allTermsHold();
        ownSigns();
        holding();
        stepsOfFacts();
        stepsOfTerms();
        stepsOfNoAtoms();
        stepsLeast();
        whyFirstRule();
        whyLeastThings();
        whySignsInOrder();
        comesMost();
        comesTogether();
        comesAsTold();
        comesWhateverThing();
        comesCantBe();
        goFewest();
        goFirstByNumbers();
        goUpToThree();
        goAmongTwelve();
        idle();
        spare();
        trouble();
        troubleOfLatest();
        Boundary.end("BoundaryFollowsTest");
    }

    private static void layers() {
        Boundary.of("Term III",
            "no less than those of ATOM TERMS of its RULES and greater than those of not TERMS");
        RuleCourt x = Checks.court("a. b:a. c:not a. d:c. e:c,not a. f:not c. g:d,not e,f.");
        int[] due = {0, 0, 1, 1, 1, 2, 2};
        for (int k = 0; k < due.length; k++) {
            Boundary.still("LAYER of KIND " + k, x.layer(k), due[k]);
        }
        // One RULE more, the same but a not
        Checks.tell(x, "g:not f.");
        Boundary.beyond("the LAYER of a not TERM", x.layer(6), 3);
        Checks.tell(x, "b:g.");
        Boundary.beyond("the LAYER of an ATOM TERM", x.layer(1), 3);
        Boundary.still("a # doesn't count", Checks.court("p:a#b.").layer(0), 0);
        // KINDS that lean on one another, and one of them on a refusal
        RuleCourt y = Checks.court("p:q. q:p. q:r. r:q, not s.");
        for (int k = 0; k < 3; k++) {
            Boundary.still("LAYER in a ring", y.layer(k), 1);
        }
        RuleCourt z = Checks.court("a:not b.b:not c.c:not d.d:not e.e:not f.f:not g.g:not h."
            + "h:not i.i:not j.");
        Boundary.still("the greatest of all", z.layer(0), 9);
        Boundary.still("LAYERS", z.count(5), 10);
        Boundary.beyond("the greatest", Checks.tell(z, "j:not a."), -1);
    }

    private static void layersLeast() {
        Boundary.of("Term III", "LAYERS: of each KIND the least number");
        RuleCourt x = Checks.court("a:not b. b:not c. d:a. d:b.");
        Boundary.still("d by its greatest", x.layer(3), 2);
        x.drop(2);
        Boundary.beyond("d without that RULE", x.layer(3), 1);
        x.drop(1);
        Boundary.beyond("a without b's RULE", x.layer(0), 1);
        Boundary.beyond("b without a RULE", x.layer(1), 0);
        Boundary.beyond("d", x.layer(3), 0);
        Boundary.still("c", x.layer(2), 0);
        Boundary.beyond("LAYERS", x.count(5), 2);
    }

    private static void layerByLayer() {
        Boundary.of("Term III", "FOLLOWS: layer by layer");
        // Every second FOLLOWS, whatever the order of the RULES.
        RuleCourt x = Checks.court("a:not b.b:not c.c:not d.d:not e.e:not f.f:not g.g:not h."
            + "h:not i.i:not j.");
        for (int k = 0; k < 10; k++) {
            if (k % 2 == 0) {
                Boundary.still("KIND " + k, x.follows(k * 100), 1);
            } else {
                Boundary.beyond("KIND " + k, x.follows(k * 100), 0);
            }
        }
        x.fact(900, true);
        for (int k = 0; k < 9; k++) {
            if (k % 2 == 1) {
                Boundary.still("KIND " + k, x.follows(k * 100), 1);
            } else {
                Boundary.beyond("KIND " + k, x.follows(k * 100), 0);
            }
        }
    }

    private static void rulesInAnyOrder() {
        Boundary.of("Term III", "FOLLOWS: layer by layer: FACTS told; and the first ATOM of a RULE");
        String[] orders = {"a:b.b:c.c:d.d:e.e:f.f:g.g:h.h:i.i:j.", "i:j.h:i.g:h.f:g.e:f.d:e.c:d.b:c.a:b.",
            "b:c.d:e.f:g.h:i.a:b.c:d.e:f.g:h.i:j."};
        for (String order : orders) {
            // KINDS by their letters: a 0 .. j 9
            RuleCourt x = Checks.court("a.b.c.d.e.f.g.h.i.j.", order);
            for (int k = 0; k < 9; k++) {
                x.fact(k * 100, false);
            }
            for (int k = 0; k < 10; k++) {
                Boundary.still("STEPS of KIND " + k, x.steps(k * 100), 9 - k);
            }
            Boundary.still("all but the FACT", x.derived(), 9);
            x.drop(order.indexOf("e:f") / 4);
            for (int k = 0; k < 10; k++) {
                Boundary.beyond("KIND " + k + " without e:f", x.steps(k * 100), k < 5 ? -2 : 9 - k);
            }
        }
    }

    private static void ringsOfRules() {
        Boundary.of("Term III",
            "the first ATOM of a RULE, its SIGNS being THINGS, if all its TERMS hold");
        // From j down to a, by turns; the TERM that leans on the other RULE stands first or last.
        String[] rules = {"e(A):o(B),n(B,A). o(A):n(B,A),e(B).", "o(A):e(B),n(B,A). e(A):n(B,A),o(B)."};
        for (String two : rules) {
            RuleCourt x = Checks.court("z(a).z(b).z(c).z(d).z(e).z(f).z(g).z(h).z(i).z(j).",
                "n(j,i).n(i,h).n(h,g).n(g,f).n(f,e).n(e,d).n(d,c).n(c,b).n(b,a). e(j).", two);
            int e = 200;
            int o = 300;
            for (int thing = 0; thing < 10; thing++) {
                boolean even = (9 - thing) % 2 == 0;
                Boundary.still("THING " + thing, x.steps((even ? e : o) + thing * 10), 9 - thing);
                Boundary.beyond("THING " + thing, x.steps((even ? o : e) + thing * 10), -2);
            }
            // n(f,e) gone: f is the last.
            x.fact(x.atom(1, 5, 4), false);
            Boundary.still("down to f", x.derived(), 4);
            Boundary.still("f", x.steps(e + 50), 4);
            Boundary.beyond("e", x.steps(o + 40), -2);
        }
    }

    private static void allTermsHold() {
        Boundary.of("Term III", "if all its TERMS hold");
        RuleCourt x = Checks.court("p:q,r,not s,a#b. q. r.");
        Boundary.still("all four", x.follows(0), 1);
        int[] toggled = {100, 200, 300};
        for (int atom : toggled) {
            boolean was = x.follows(atom) == 2;
            x.fact(atom, !was);
            Boundary.beyond("without TERM of " + atom, x.follows(0), 0);
            x.fact(atom, was);
            Boundary.still("with it again", x.follows(0), 1);
        }
        Boundary.beyond("a # that doesn't hold", Checks.court("p:q,a#a. q.").follows(0), 0);
    }

    private static void ownSigns() {
        Boundary.of("Term III", "the first ATOM of a RULE, its SIGNS being THINGS");
        RuleCourt x = Checks.court("p(A,B):q(A),q(B). q(a). q(b). r(c).");
        int[] due = {0, 1, 10, 11};
        Boundary.still("so many", x.many(0), 4);
        for (int i = 0; i < 4; i++) {
            Boundary.still("ATOM " + i, x.one(0, i), due[i]);
        }
        Boundary.beyond("a THING for which it doesn't hold", x.follows(2), 0);
        Boundary.beyond("a THING for which it doesn't hold", x.follows(22), 0);
        RuleCourt y = Checks.court("q(a). p(A,A):q(A). p(b,A):q(A).");
        Boundary.still("one SIGN twice", y.follows(100), 1);
        Boundary.beyond("one SIGN, two THINGS", y.follows(101), 0);
        Boundary.still("a THING and a SIGN", y.follows(110), 1);
        Boundary.beyond("another THING", y.follows(111), 0);
        RuleCourt z = Checks.court("p:q(A,A). q(a,b). q(b,a).");
        Boundary.beyond("one SIGN, two THINGS", z.follows(0), 0);
        z.fact(111, true);
        Boundary.still("one SIGN, one THING", z.follows(0), 1);
        // Without THINGS no SIGN is one.
        RuleCourt w = Checks.court("p:q(A). r:s.");
        Boundary.beyond("no THINGS", w.follows(0), 0);
    }

    private static void holding() {
        Boundary.of("Term III",
            "an ATOM that FOLLOWS, not of one that doesn't, # of two unlike THINGS");
        RuleCourt x = Checks.court("p(A):q(A). r(A):s(A),not p(A). t(A,B):s(A),s(B),A#B.",
            "q(a). s(a). s(b).");
        Boundary.still("an ATOM", x.follows(0), 1);
        Boundary.beyond("an ATOM", x.follows(10), 0);
        Boundary.still("not", x.follows(210), 1);
        Boundary.beyond("not", x.follows(200), 0);
        Boundary.still("#", x.follows(401), 1);
        Boundary.beyond("#", x.follows(400), 0);
        Boundary.beyond("#", x.follows(411), 0);
        // What leads to itself alone doesn't FOLLOW.
        RuleCourt y = Checks.court("p:q. q:p. r:not p.");
        Boundary.beyond("a ring", y.follows(0), 0);
        Boundary.still("its refusal", y.follows(200), 1);
        y.fact(100, true);
        Boundary.still("a ring with a FACT", y.follows(0), 1);
        Boundary.beyond("its refusal", y.follows(200), 0);
    }

    private static void stepsOfFacts() {
        Boundary.of("Term III", "STEPS of an ATOM that FOLLOWS: 0 if it is a FACT");
        RuleCourt x = Checks.court("a. b:a. c:b. d.");
        x.fact(100, true);
        Boundary.still("a FACT that a RULE leads to as well", x.steps(100), 0);
        Boundary.still("behind it", x.steps(200), 1);
        x.fact(100, false);
        Boundary.beyond("no FACT", x.steps(100), 1);
        Boundary.beyond("behind it", x.steps(200), 2);
        x.fact(0, false);
        Boundary.beyond("what FOLLOWS", x.steps(100), -2);
    }

    private static void stepsOfTerms() {
        Boundary.of("Term III", "else 1 more than the most of the ATOM TERMS");
        RuleCourt x = Checks.court("a. b:a. c:b. d:a,c,b. e:a,b. f:a. g:a,not h,a#b.");
        Boundary.still("the most in the middle", x.steps(300), 3);
        Boundary.still("the most at the end", x.steps(400), 2);
        Boundary.still("a FACT alone", x.steps(500), 1);
        Boundary.still("a FACT, not and #", x.steps(600), 1);
        x.fact(200, true);
        Boundary.beyond("that most", x.steps(300), 2);
        // The STEPS of what is refused, or would be, don't count.
        RuleCourt y = Checks.court("a. b:a. c:b. d:c. e:not z,a. z:d,y.");
        Boundary.beyond("a not TERM's RULES", y.steps(400), 1);
    }

    private static void stepsOfNoAtoms() {
        Boundary.of("Term III", "(0 of not, # alone)");
        RuleCourt x = Checks.court("p:not q. r:a#b. s:a#b,not q,b#a. t:p,not q.");
        Boundary.still("not", x.steps(0), 1);
        Boundary.still("#", x.steps(200), 1);
        Boundary.still("both", x.steps(300), 1);
        Boundary.beyond("an ATOM TERM beside a not", x.steps(400), 2);
    }

    private static void stepsLeast() {
        Boundary.of("Term III", "of a RULE by which it does, the least that there is");
        RuleCourt x = Checks.court("a. b:a. c:b. d:c. e:d. e:b,c. f:e.");
        Boundary.still("by the second RULE", x.steps(400), 3);
        Boundary.still("behind it", x.steps(500), 4);
        x.drop(4);
        Boundary.beyond("without that RULE", x.steps(400), 4);
        Boundary.beyond("behind it", x.steps(500), 5);
        // Found by more STEPS first, and what leans on it as well
        RuleCourt v = Checks.court("s. u:p. r:s. q:r. p:q. p:t. t:s.");
        Boundary.still("p by t", v.steps(v.atom(2, 0, 0)), 2);
        Boundary.still("u behind it", v.steps(v.atom(1, 0, 0)), 3);
        v.drop(4);
        Boundary.beyond("p by q", v.steps(v.atom(2, 0, 0)), 3);
        Boundary.beyond("u behind it", v.steps(v.atom(1, 0, 0)), 4);
        // By other THINGS of the same RULE
        RuleCourt y = Checks.court("n(a,b).n(b,c).n(c,d).n(a,d). w(a). w(A):w(B),n(B,A).");
        Boundary.still("the short way", y.steps(130), 1);
        y.fact(3, false);
        Boundary.beyond("the long way alone", y.steps(130), 3);
        // The longest of all: 990 ATOMS one behind the other would need more RULES; 9 in a row.
        RuleCourt z = Checks.court("n(a,b).n(b,c).n(c,d).n(d,e).n(e,f).n(f,g).n(g,h).n(h,i).n(i,j).",
            "w(a). w(A):w(B),n(B,A). v(A):w(A),n(A,j).");
        Boundary.still("nine in a row", z.steps(190), 9);
        Boundary.still("behind the eighth", z.steps(280), 9);
        Boundary.beyond("those that FOLLOW", z.steps(290), -2);
    }

    private static void whyFirstRule() {
        Boundary.of("Term III",
            "of RULES and THINGS for their SIGNS by which it has these STEPS the first RULE");
        RuleCourt x = Checks.court("a. b:a. c:b. c:a. c:a,a. d:c.");
        Boundary.still("the first with these STEPS", x.why(200), 2);
        x.drop(2);
        Boundary.still("the next", x.why(200), 2);
        Boundary.still("its TERMS", x.because(1), 0);
        x.drop(2);
        Boundary.beyond("all of them", x.why(200), 1);
        x.fact(100, true);
        Boundary.still("now in one STEP", x.why(200), 1);
        Boundary.still("STEPS", x.steps(200), 1);
    }

    private static void whyLeastThings() {
        Boundary.of("Term III", "of it those with the least THINGS");
        RuleCourt x = Checks.court("z(a). z(b). z(c). q(c,a). q(b,c). q(b,b). p:q(A,B).");
        Boundary.still("why", x.why(200), 0);
        Boundary.still("q(b,b)", x.because(0), 111);
        x.fact(111, false);
        x.why(200);
        Boundary.beyond("without it", x.because(0), 112);
        x.fact(112, false);
        x.why(200);
        Boundary.beyond("without it", x.because(0), 120);
        // Only those by which it has these STEPS
        RuleCourt y = Checks.court("q(b). r(a):q(b). p:r(A). r(c). s(a).");
        Boundary.still("why", y.why(200), 1);
        Boundary.still("r(c), not r(a)", y.because(0), 120);
        y.fact(120, false);
        y.why(200);
        Boundary.beyond("without r(c)", y.because(0), 110);
    }

    private static void whySignsInOrder() {
        Boundary.of("Term III", "by SIGNS in the order in which they first stand in the RULE");
        // B stands first: by B = a, A = b, not by A = a, B = b
        RuleCourt x = Checks.court("q(a,b). q(b,a). p:q(B,A). r:q(A,B),A#B. z(c).");
        x.why(100);
        Boundary.still("the first that stands", x.because(0), 1);
        RuleCourt y = Checks.court("q(a,b). q(b,a). p:A#B,q(B,A).");
        y.why(100);
        Boundary.still("in a #", y.because(1), 10);
        RuleCourt z = Checks.court("q(a,b). q(b,a). p:q(B,A),A#B.");
        z.why(100);
        Boundary.beyond("the order of TERMS", z.because(0), 1);
        RuleCourt w = Checks.court("q(a,b). q(b,a). p:not s(A,B),q(B,A).");
        w.why(100);
        Boundary.still("in a not", w.because(0), 201);
        Boundary.still("in a not", w.because(1), 10);
        // The first ATOM's SIGNS are as it is told.
        RuleCourt v = Checks.court("q(a,b). q(b,a). q(b,b). p(A):q(B,A).");
        v.why(110);
        Boundary.still("the first ATOM's", v.because(0), 1);
        v.why(100);
        Boundary.beyond("another ATOM", v.because(0), 10);
    }

    private static void comesMost() {
        Boundary.of("Term III", "the most of its TERMS, from the first on");
        RuleCourt x = Checks.court("p:a,b,c,d. e.");
        for (int terms = 0; terms <= 4; terms++) {
            Boundary.still("TERMS that hold", x.comes(0, 0), terms);
            if (terms < 4) {
                x.fact((terms + 1) * 100, true);
            }
        }
        x.fact(200, false);
        Boundary.beyond("one that doesn't", x.comes(0, 0), 1);
        x.fact(100, false);
        Boundary.beyond("the first doesn't", x.comes(0, 0), 0);
    }

    private static void comesTogether() {
        Boundary.of("Term III", "that can hold together");
        RuleCourt x = Checks.court("p:q(A),r(A),not s(A). q(a). r(b). s(a).");
        Boundary.beyond("each by itself", x.comes(0, 0), 1);
        x.fact(x.atom(2, 0, 0), true);
        Boundary.still("two together", x.comes(0, 0), 2);
        x.fact(x.atom(1, 1, 0), true);
        Boundary.still("three together", x.comes(0, 0), 3);
        RuleCourt y = Checks.court("p:q(A,B),A#B,q(B,A). q(a,a). q(b,c).");
        Boundary.still("two of three", y.comes(0, 0), 2);
        y.fact(y.atom(1, 2, 1), true);
        Boundary.still("all", y.comes(0, 0), 3);
        y.fact(y.atom(1, 1, 2), false);
        y.fact(y.atom(1, 2, 1), false);
        Boundary.beyond("one alone", y.comes(0, 0), 1);
    }

    private static void comesAsTold() {
        Boundary.of("Term III", "the SIGNS of its first ATOM being as the ATOM tells");
        RuleCourt x = Checks.court("p(A,B):q(A),q(B),A#B. q(a). q(b). z(c).");
        Boundary.still("a, b", x.comes(0, 1), 3);
        Boundary.beyond("a, a", x.comes(0, 0), 2);
        Boundary.beyond("a, c", x.comes(0, 2), 1);
        Boundary.beyond("c, a", x.comes(0, 20), 0);
    }

    private static void comesWhateverThing() {
        Boundary.of("Term III",
            "(TERM by TERM, a SIGN that isn't told yet being whatever THING lets most hold)");
        RuleCourt x = Checks.court("p:q(A),r(A,B),s(B). q(a).q(b).q(j). r(b,a).r(j,a).r(j,c).",
            "t(d).t(e).t(f).t(g).t(h).t(i).");
        Boundary.still("by the last THING", x.comes(0, 0), 2);
        x.fact(x.atom(3, 3, 0), true);
        Boundary.still("by the last and c", x.comes(0, 0), 3);
        x.fact(x.atom(2, 2, 3), false);
        Boundary.beyond("without it", x.comes(0, 0), 2);
        // One of the THINGS that there are
        String[] unlike = {"p:a#B,q(B).", "p:B#a,q(B)."};
        for (String rule : unlike) {
            RuleCourt z = Checks.court(rule);
            Boundary.beyond("the only THING", z.comes(0, 0), 0);
            Checks.tell(z, "z(b).");
            Boundary.still("another THING", z.comes(0, 0), 1);
        }
        String[] refused = {"p:not r(a,B),q(B).", "p:not r(B,a),q(B)."};
        for (int i = 0; i < 2; i++) {
            RuleCourt z = Checks.court(refused[i], "r(a,a). r(a,b). r(b,a). r(c,a). r(a,c).");
            Boundary.beyond("refused for every THING", z.comes(0, 0), 0);
            z.fact(i == 0 ? z.atom(1, 0, 2) : z.atom(1, 2, 0), false);
            Boundary.still("all but the last", z.comes(0, 0), 1);
        }
        // Without THINGS there is none for a SIGN.
        RuleCourt y = Checks.court("p:q(A). p:not q(A),q(A). p:not r,q(A).");
        Boundary.beyond("no THINGS", y.comes(0, 0), 0);
        Boundary.beyond("no THINGS for a not", y.comes(1, 0), 0);
        Boundary.still("a TERM without SIGNS", y.comes(2, 0), 1);
        Checks.tell(y, "z(a).");
        Boundary.still("a THING for a not", y.comes(1, 0), 1);
        Boundary.beyond("a THING without q", y.comes(0, 0), 0);
    }

    private static void comesCantBe() {
        Boundary.of("Term III", "-2 if the first ATOM can't be it");
        RuleCourt x = Checks.court("p(a,A):q(A). p(A,A):q(A). p(b,a):q(a). z(b).");
        Boundary.still("its THING, no TERM holds", x.comes(0, 1), 0);
        Boundary.beyond("another THING", x.comes(0, 10), -2);
        Boundary.still("the same twice", x.comes(1, 11), 0);
        Boundary.beyond("two unlike", x.comes(1, 1), -2);
        Boundary.still("both THINGS", x.comes(2, 10), 0);
        Boundary.beyond("its second another", x.comes(2, 11), -2);
        Boundary.beyond("its first another", x.comes(2, 0), -2);
        Boundary.beyond("not refused by that", x.trouble(), 0);
    }

    private static void goFewest() {
        Boundary.of("Term IV", "GO: the fewest FACTS without which an ATOM doesn't FOLLOW");
        RuleCourt x = Checks.court("a. b. c. g:a,b. g:b,c. h:a. h:b.");
        Boundary.still("one for two ways", x.go(300), 1);
        Boundary.still("it", x.gone(0), 100);
        Boundary.still("two", x.go(400), 2);
        Boundary.still("a FACT itself", x.go(0), 1);
        Boundary.still("itself", x.gone(0), 0);
        // A FACT to which a RULE leads as well
        x.fact(400, true);
        Boundary.beyond("two", x.go(400), 3);
        Boundary.beyond("the last", x.gone(2), 400);
        // By a RULE of four TERMS, the last FACT of which has the least number
        RuleCourt w = Checks.court("d. a. b. c. g:a,b,not e,d. h:c,c,c,g.");
        Boundary.still("one of three", w.go(400), 1);
        Boundary.still("d", w.gone(0), 0);
        Boundary.still("one of four", w.go(600), 1);
        Boundary.still("d", w.gone(0), 0);
        w.drop(0);
        w.fact(400, true);
        Boundary.beyond("d", w.go(600), 1);
        Boundary.beyond("d", w.gone(0), 300);
        // By a refusal: a FACT must go so that another FOLLOWS.
        RuleCourt y = Checks.court("n. g:not m. m:not n. k.");
        Boundary.still("that refuses a refusal", y.go(100), 1);
        Boundary.still("it", y.gone(0), 0);
        Checks.tell(y, "g:k.");
        Boundary.beyond("one", y.go(100), 2);
        // Fewer FACTS may let it go and more bring it back.
        RuleCourt z = Checks.court("a. b. g:a,b. g:not a,not b.");
        Boundary.still("one alone", z.go(200), 1);
        z.fact(0, false);
        Boundary.beyond("doesn't FOLLOW", z.go(200), -1);
        z.fact(100, false);
        Boundary.beyond("what FACTS there are", z.go(200), -2);
    }

    private static void goFirstByNumbers() {
        Boundary.of("Term IV", "of as few the first by the numbers of their ATOMS"
            + " (of sorted rows the lesser number where they first differ)");
        // {a, d} is ahead of {b, c}, whatever the order in which they were told.
        RuleCourt x = Checks.court("d. c. b. a. g:a,b. g:a,c. g:d,b. g:d,c.");
        // KINDS: d 0, c 1, b 2, a 3
        Boundary.still("two", x.go(400), 2);
        Boundary.still("d", x.gone(0), 0);
        Boundary.still("a", x.gone(1), 300);
        x.drop(1);
        // Now g:a,b. g:d,b. g:d,c.: {d, b}, {d, a}, {c, b}
        Boundary.beyond("two", x.go(400), 2);
        Boundary.beyond("d", x.gone(0), 0);
        Boundary.beyond("b, ahead of a", x.gone(1), 200);
        RuleCourt y = Checks.court("p(a).p(b).p(c). g:p(a),p(b). g:p(c).");
        Boundary.still("two", y.go(100), 2);
        Boundary.still("p(a)", y.gone(0), 0);
        Boundary.still("p(c)", y.gone(1), 20);
        Boundary.beyond("two", y.gone(2), -1);
    }

    private static void goUpToThree() {
        Boundary.of("Term IV", "sought up to 3 among FACTS");
        RuleCourt x = Checks.court("a. b. c. d. g:a. g:b. g:c.");
        Boundary.still("three ways", x.go(400), 3);
        for (int i = 0; i < 3; i++) {
            Boundary.still("FACT " + i, x.gone(i), i * 100);
        }
        Checks.tell(x, "g:d.");
        Boundary.beyond("four ways", x.go(400), -2);
        Boundary.beyond("a fourth", x.gone(3), -1);
        Boundary.still("those of the go ahead", x.gone(2), 200);
        // Fewer FACTS than 3, and none
        RuleCourt y = Checks.court("a. b. g:a. g:b. h:not z. k:not z,a. k:h.");
        Boundary.still("two of two", y.go(200), 2);
        Boundary.beyond("whatever goes", y.go(300), -2);
        y.fact(0, false);
        y.fact(100, false);
        Boundary.beyond("no FACTS", y.go(300), -2);
    }

    private static void goAmongTwelve() {
        Boundary.of("Term IV", "if there are 12 at most");
        RuleCourt x = Checks.court("p(a).p(b).p(c).p(d).p(e).p(f).p(g).p(h).p(i).p(j).",
            "g:p(h). g:p(j). g:q(b). q(a). q(b).");
        Boundary.still("12 FACTS", x.count(3), 12);
        Boundary.still("the last three of them", x.go(100), 3);
        Boundary.still("p(h)", x.gone(0), 70);
        Boundary.still("p(j)", x.gone(1), 90);
        Boundary.still("q(b), the last of 12", x.gone(2), 210);
        x.fact(220, true);
        Boundary.beyond("13 FACTS", x.go(100), -1);
        Boundary.beyond("trouble", x.trouble(), 6);
        Boundary.beyond("a FACT itself", x.go(0), -1);
        Boundary.beyond("trouble", x.trouble(), 6);
        x.fact(0, false);
        Boundary.still("12 again", x.go(100), 3);
        // Of 12 the first three, and the last three
        String[] ways = {"g:p(a). g:p(b). g:p(c).", "g:p(j). g:q(a). g:q(b)."};
        int[][] due = {{0, 10, 20}, {90, 200, 210}};
        for (int i = 0; i < 2; i++) {
            RuleCourt z = Checks.court("p(a).p(b).p(c).p(d).p(e).p(f).p(g).p(h).p(i).p(j).", ways[i],
                "q(a). q(b). g:z,q(A).");
            Boundary.still("12 FACTS", z.count(3), 12);
            Boundary.still("three of them", z.go(100), 3);
            for (int f = 0; f < 3; f++) {
                Boundary.still("FACT " + f, z.gone(f), due[i][f]);
            }
        }
        // What FOLLOWS without being a FACT doesn't count.
        RuleCourt y = Checks.court("p(a).p(b).p(c).p(d).p(e).p(f).p(g).p(h).p(i).p(j).",
            "q(A,B):p(A),p(B).");
        Boundary.still("110 that FOLLOW, 10 FACTS", y.go(199), 1);
        Boundary.still("p(j)", y.gone(0), 90);
    }

    private static void idle() {
        Boundary.of("Term IV", "IDLE: a RULE of which the TERMS never hold together");
        RuleCourt x = Checks.court("p(A):q(A),r(A). q(a). r(b).");
        Boundary.still("each TERM for another THING", x.rule(0, 3), 1);
        x.fact(x.atom(2, 0, 0), true);
        Boundary.beyond("one THING for both", x.rule(0, 3), 0);
        // It isn't IDLE though it leads to nothing new.
        x.fact(0, true);
        Boundary.beyond("its first ATOM is a FACT", x.rule(0, 3), 0);
        Boundary.still("a ring", Checks.court("p:p.").rule(0, 3), 1);
        Boundary.beyond("a ring of a FACT", Checks.court("p:p. p.").rule(0, 3), 0);
        Boundary.still("a # that never holds", Checks.court("p:a#a. q(b).").rule(0, 3), 1);
        Boundary.beyond("a # that holds", Checks.court("p:a#b.").rule(0, 3), 0);
        RuleCourt y = Checks.court("p:not q. q:not r.");
        Boundary.still("a not of one that FOLLOWS", y.rule(0, 3), 1);
        y.fact(200, true);
        Boundary.beyond("a not of one that doesn't", y.rule(0, 3), 0);
    }

    private static void spare() {
        Boundary.of("Term IV", "SPARE: a RULE without which the same FOLLOWS");
        RuleCourt x = Checks.court("a. b:a. b:a,a. c:b.");
        Boundary.still("another RULE does it", x.rule(0, 4), 1);
        Boundary.still("and the other way", x.rule(1, 4), 1);
        Boundary.beyond("no other", x.rule(2, 4), 0);
        x.drop(1);
        Boundary.beyond("now alone", x.rule(0, 4), 0);
        x.fact(100, true);
        Boundary.still("a FACT does it", x.rule(0, 4), 1);
        // STEPS don't matter.
        RuleCourt y = Checks.court("a. b:a. c:b. c:a.");
        Boundary.still("fewer STEPS by it", y.rule(2, 4), 1);
        // As many, but others
        RuleCourt z = Checks.court("a. b:a. c:a,not b.");
        Boundary.beyond("as many but others", z.rule(0, 4), 0);
        Boundary.still("IDLE", z.rule(1, 4), 1);
        RuleCourt w = Checks.court("a. b:not a. c:b. c:not d. d:b.");
        Boundary.still("a higher LAYER, IDLE", w.rule(0, 4), 1);
        Boundary.beyond("by a refusal", w.rule(2, 4), 0);
    }

    private static void trouble() {
        Boundary.of("Term V", "0 it wasn't; 1 there is none such; 2 a number; 4 a FAULT;"
            + " 5 it doesn't FOLLOW (or does); 6 too many");
        RuleCourt x = Checks.court("p(a). q(A):p(A). r.");
        Boundary.still("tell", x.trouble(), 0);
        x.fact(10, true);
        Boundary.beyond("THINGS", x.trouble(), 1);
        x.fact(0, true);
        Boundary.still("fact", x.trouble(), 0);
        x.drop(1);
        Boundary.beyond("RULES", x.trouble(), 1);
        x.tell(1);
        Boundary.beyond("THE TAPE", x.trouble(), 2);
        x.tell(-1);
        Boundary.beyond("0 bytes", x.trouble(), 2);
        x.tell(0);
        Boundary.beyond("a TEXT", x.trouble(), 4);
        x.why(100);
        Boundary.still("why", x.trouble(), 0);
        x.fact(0, false);
        x.why(100);
        Boundary.beyond("what FOLLOWS", x.trouble(), 5);
        x.go(100);
        Boundary.beyond("what FOLLOWS", x.trouble(), 5);
        x.go(200);
        Boundary.still("go", x.trouble(), 0);
        Checks.tell(x, "p(a).p(b).p(c).p(d).p(e).p(f).p(g).p(h).p(i).p(j).s(a).");
        x.go(200);
        Boundary.still("go among 12", x.trouble(), 0);
        x.fact(x.atom(3, 1, 0), true);
        x.go(200);
        Boundary.beyond("12", x.trouble(), 6);
        x.turned(200, true);
        Boundary.still("turned", x.trouble(), 0);
        x.turned(201, true);
        Boundary.beyond("ATOMS", x.trouble(), 1);
        x.comes(0, 190);
        Boundary.still("comes", x.trouble(), 0);
        x.comes(0, 200);
        Boundary.beyond("the RULE's KIND", x.trouble(), 1);
    }

    private static void troubleOfLatest() {
        Boundary.of("Term V", "TROUBLE of the latest call that may be refused");
        RuleCourt x = Checks.court("p(a). q(A):p(A). r.");
        // feed tells no number of TROUBLE, at a full TAPE neither.
        x.tell(-1);
        for (int f = 0; f < 21; f++) {
            x.feed(0, 0, 0, 0, 0);
        }
        Boundary.still("asked behind feeds", x.trouble(), 2);
        Boundary.beyond("a tell of all that was fed", x.tell(400), -1);
        Boundary.beyond("a tell of all that was fed", x.trouble(), 4);
        for (int f = 0; f < 21; f++) {
            x.feed(0, 0, 0, 0, 0);
        }
        Boundary.beyond("asked behind feeds", x.trouble(), 4);
        Boundary.beyond("where, behind feeds", x.where(), 0);
        x.tell(0);
        int[] due = {1, 1, 1, 1, 1, 1, 2};
        for (int refusal = 0; refusal < due.length; refusal++) {
            refuse(x, refusal);
            Boundary.still("refusal " + refusal, x.trouble(), due[refusal]);
            askWhatTellsNoNumber(x);
            Boundary.still("asked behind others", x.trouble(), due[refusal]);
            x.fact(0, true);
            Boundary.beyond("a call that wasn't", x.trouble(), 0);
            askWhatTellsNoNumber(x);
            Boundary.beyond("asked behind others", x.trouble(), 0);
        }
    }

    private static void refuse(RuleCourt x, int refusal) {
        switch (refusal) {
            case 0: x.fact(999, true); break;
            case 1: x.drop(9); break;
            case 2: x.why(-1); break;
            case 3: x.comes(9, 0); break;
            case 4: x.go(999); break;
            case 5: x.turned(999, false); break;
            default: x.tell(400); break;
        }
    }

    /** Calls that are answered, and such as answer NONE or throw, without a number of TROUBLE. */
    private static void askWhatTellsNoNumber(RuleCourt x) {
        for (int number : new int[] {0, -1, 999}) {
            x.atom(number, 0, 0);
            Checks.name(x, number, 0, true);
            x.places(number);
            x.layer(number);
            x.follows(number);
            x.many(number);
            x.one(number, 0);
            x.steps(number);
            x.because(number);
            x.rule(number, 0);
            x.term(number, 0, 0);
            x.gone(number);
            x.count(number);
        }
        x.fault();
        x.where();
        x.derived();
        x.deepest();
    }
}
