/** The boundary cases of the Promises 1 to 15. */
public final class BoundaryPromises1To15Test {
    private static final int[] FAR = Boundary.FAR;
    private static final int BLANKS = 0x20202020;

    private BoundaryPromises1To15Test() {
    }

    public static void main(String[] args) {
        newObject();
        feedTwenty();
        feedHighestFirst();
        feedFull();
        tellFirstBytes();
        tellEmpties();
        tellFactsStay();
        tellClauses();
        tellNumber();
        tellFaulty();
        faultOfLatest();
        faultWithoutOne();
        where();
        whereLatest();
        atomNumber();
        atomNone();
        atomPlaceThatIsnt();
        nameByte();
        nameThrows();
        places();
        layer();
        factToldUntold();
        factSoAlready();
        factNone();
        dropGone();
        dropNumbers();
        dropFalse();
        follows();
        followsNone();
        numbersBelowZero();
        many();
        one();
        steps();
        stepsNone();
        Boundary.end("BoundaryPromises1To15Test");
    }

    private static RuleCourt fresh() {
        return new RuleCourt();
    }

    private static void newObject() {
        Boundary.of("Promise 1", "No THINGS, KINDS, RULES.");
        RuleCourt x = fresh();
        for (int what = 0; what < 6; what++) {
            Boundary.still("count " + what, x.count(what), 0);
        }
        Boundary.still("a KIND", x.places(0), -1);
        Boundary.still("a RULE", x.rule(0, 0), -1);
        Boundary.still("an ATOM", x.follows(0), -1);
        Boundary.still("a name", Checks.name(x, 0, 0, true), -2);
        Boundary.still("a name", Checks.name(x, 0, 0, false), -2);
        Boundary.still("fact", x.fact(0, true), -1);
        Boundary.still("drop", x.drop(0), false);
        Boundary.still("because", x.because(0), -1);
        Boundary.still("gone", x.gone(0), -1);
        Boundary.still("derived", x.derived(), 0);
        Boundary.still("deepest", x.deepest(), 0);
        Checks.tell(x, "p(a):q.");
        Boundary.beyond("no THINGS", x.count(0), 1);
        Boundary.beyond("no KINDS", x.count(1), 2);
        Boundary.beyond("no RULES", x.count(2), 1);
        // Another object has nothing of it.
        RuleCourt y = fresh();
        for (int what = 0; what < 6; what++) {
            Boundary.still("count " + what + " of another", y.count(what), 0);
        }
        Boundary.still("trouble", y.trouble(), 0);
        Boundary.still("fault", y.fault(), 0);
        Boundary.still("where", y.where(), -1);
    }

    private static void feedTwenty() {
        Boundary.of("Promise 2", "Twenty bytes come behind THE TAPE");
        RuleCourt x = fresh();
        Boundary.still("the first", x.feed(0x702e712e, 0x722e732e, 0x742e752e, 0x762e772e,
            0x782e2079), 20);
        Boundary.still("those behind them", x.feed(0x2e792e79, 0x2e792e79, 0x2e792e79, 0x2e792e79,
            0x2e792e20), 40);
        Boundary.still("all of them", x.tell(40), 19);
        Boundary.still("KINDS", x.count(1), 10);
        x.feed(0x702e712e, 0x722e732e, 0x742e752e, 0x762e772e, 0x782e2079);
        Boundary.beyond("the twenty", x.tell(21), -1);
        Boundary.beyond("the twenty", x.trouble(), 2);
        Boundary.still("twenty", x.count(4), 20);
    }

    private static void feedHighestFirst() {
        Boundary.of("Promise 2", "of each number the highest first");
        for (int at = 0; at < 20; at++) {
            int[] numbers = {BLANKS, BLANKS, BLANKS, BLANKS, BLANKS};
            int shift = 24 - at % 4 * 8;
            numbers[at / 4] = BLANKS & ~(255 << shift) | 0xff << shift;
            RuleCourt x = fresh();
            x.feed(numbers[0], numbers[1], numbers[2], numbers[3], numbers[4]);
            Boundary.beyond("the bytes ahead of 255", x.tell(20), -1);
            Boundary.beyond("where 255 stands", x.where(), at);
        }
        RuleCourt y = fresh();
        y.feed(0x61626364, 0x65666768, 0x28696a6b, 0x6c6d6e6f, 0x70292e20);
        Boundary.still("abcdefgh(ijklmnop).", y.tell(20), 1);
        for (int i = 0; i < 8; i++) {
            Boundary.still("byte " + i, Checks.name(y, 0, i, true), 'a' + i);
            Boundary.still("byte " + i, Checks.name(y, 0, i, false), 'i' + i);
        }
    }

    private static void feedFull() {
        Boundary.of("Promise 2", "NONE, and none comes, if there would be more than 400");
        RuleCourt x = fresh();
        for (int f = 1; f <= 20; f++) {
            Boundary.still("feed " + f, x.feed(BLANKS, BLANKS, BLANKS, BLANKS, 0x2020702e), 20 * f);
        }
        for (int f = 0; f < 3; f++) {
            Boundary.beyond("400", x.feed(BLANKS, BLANKS, BLANKS, BLANKS, 0xffffffff), -1);
            Boundary.beyond("400", x.count(4), 400);
        }
        Boundary.still("as it was", x.tell(400), 20);
        Boundary.still("feed again", x.feed(BLANKS, BLANKS, BLANKS, BLANKS, BLANKS), 20);
    }

    private static void tellFirstBytes() {
        Boundary.of("Promise 3", "The first n bytes of THE TAPE");
        int[] due = {-1, -1, 1, -1, 2, -1, 3, 3, 3, 3};
        for (int n = 0; n < due.length; n++) {
            RuleCourt x = fresh();
            Checks.feed(x, "p.q.r.      !".getBytes());
            Boundary.still("n " + n, x.tell(n), due[n]);
            Boundary.still("KINDS", x.count(1), Math.max(due[n], 0));
        }
        RuleCourt y = fresh();
        Checks.feed(y, "p.q.r.      !".getBytes());
        Boundary.beyond("the bytes ahead of !", y.tell(13), -1);
        Boundary.beyond("the bytes ahead of !", y.where(), 12);
    }

    private static void tellEmpties() {
        Boundary.of("Promise 3", "THE TAPE (it is empty then)");
        RuleCourt x = fresh();
        Checks.feed(x, "p. q.".getBytes());
        x.tell(2);
        Boundary.still("bytes", x.count(4), 0);
        Boundary.beyond("those that were behind them", x.tell(1), -1);
        Boundary.beyond("a number", x.trouble(), 2);
        Checks.feed(x, "p. q".getBytes());
        x.tell(4);
        Boundary.still("bytes behind a FAULT", x.count(4), 0);
        Checks.feed(x, "p.".getBytes());
        x.tell(0);
        Boundary.still("bytes behind an empty TEXT", x.count(4), 0);
        Boundary.still("fed again", x.feed(0x722e7020, BLANKS, BLANKS, BLANKS, BLANKS), 20);
        Boundary.still("told again", x.tell(2), 1);
        Boundary.still("KINDS", x.count(1), 2);
    }

    private static void tellFactsStay() {
        Boundary.of("Promise 3", "FACTS that are there stay as they are");
        RuleCourt x = Checks.court("p. p. q(a).");
        Boundary.still("FACTS", x.count(3), 2);
        Boundary.still("told again", Checks.tell(x, "p. q(a). q(a)."), 3);
        Boundary.still("FACTS", x.count(3), 2);
        Boundary.still("a FACT", x.follows(0), 2);
        Boundary.beyond("those that are there", Checks.tell(x, "q(b). q(b)."), 2);
        Boundary.beyond("those that are there", x.count(3), 3);
        x.fact(0, false);
        Boundary.beyond("untold and told again", Checks.tell(x, "p."), 1);
        Boundary.beyond("untold and told again", x.count(3), 3);
        // A RULE told again is another.
        Boundary.beyond("FACTS", Checks.tell(x, "p:q(a). p:q(a)."), 2);
        Boundary.beyond("FACTS", x.count(2), 2);
        Boundary.still("FACTS with RULES for them", x.count(3), 3);
    }

    private static void tellClauses() {
        Boundary.of("Promise 3", "how many CLAUSES");
        for (int clauses = 1; clauses <= 200; clauses++) {
            Boundary.still(clauses + " CLAUSES", Checks.tell(fresh(), "p.".repeat(clauses)),
                clauses);
        }
        Boundary.still("RULES and FACTS", Checks.tell(fresh(), "p:q,r,s,t. p. p:q."), 3);
        Boundary.beyond("whole CLAUSES", Checks.tell(fresh(), "p.".repeat(3) + "p"), -1);
    }

    private static void tellNumber() {
        Boundary.of("Promise 3", "NONE: 2 (THE TAPE stays); 4.");
        RuleCourt x = fresh();
        Boundary.beyond("an empty TAPE", x.tell(1), -1);
        Boundary.beyond("an empty TAPE", x.trouble(), 2);
        Checks.feed(x, "p.".getBytes());
        for (int n : FAR) {
            Boundary.beyond("n " + n, x.tell(n), -1);
            Boundary.beyond("trouble of " + n, x.trouble(), 2);
            Boundary.beyond("THE TAPE stays", x.count(4), 20);
        }
        Boundary.beyond("n 21", x.tell(21), -1);
        Boundary.beyond("trouble of 21", x.trouble(), 2);
        Boundary.still("n 20", x.tell(20), 1);
        Boundary.still("trouble of 20", x.trouble(), 0);
        Checks.feed(x, "p.".getBytes());
        Boundary.beyond("n -1", x.tell(-1), -1);
        Boundary.beyond("trouble of -1", x.trouble(), 2);
        Boundary.still("n 0 is a number", x.tell(0), -1);
        Boundary.still("but no TEXT", x.trouble(), 4);
        Boundary.still("THE TAPE doesn't stay", x.count(4), 0);
    }

    private static void tellFaulty() {
        Boundary.of("Promise 3", "NONE: 2 (THE TAPE stays); 4");
        String[] texts = {"p q.", "p.p(a).", "p(A).", "p:p,p,p,p,p.", "p(A):q.", "p:not p."};
        for (int i = 0; i < texts.length; i++) {
            RuleCourt x = fresh();
            Boundary.beyond("FAULT " + (i + 1), Checks.tell(x, texts[i]), -1);
            Boundary.beyond("trouble", x.trouble(), 4);
            Boundary.beyond("THE TAPE", x.count(4), 0);
            Boundary.still("without a FAULT", Checks.tell(x, "p."), 1);
            Boundary.still("trouble", x.trouble(), 0);
        }
    }

    private static void faultOfLatest() {
        Boundary.of("Promise 4", "The FAULT of the latest tell() not refused by 2");
        String[] texts = {"p q.", "p.p(a).", "p(A).", "p:p,p,p,p,p.", "p(A):q.", "p:not p."};
        RuleCourt x = fresh();
        for (int i = 0; i < texts.length; i++) {
            Checks.tell(x, texts[i]);
            Boundary.still("FAULT", x.fault(), i + 1);
            x.tell(-1);
            Boundary.still("FAULT behind a tell refused by 2", x.fault(), i + 1);
            x.tell(1);
            Boundary.still("FAULT behind a tell refused by 2", x.fault(), i + 1);
            x.fact(0, true);
            x.drop(0);
            x.feed(0, 0, 0, 0, 0);
            Boundary.still("FAULT behind other calls", x.fault(), i + 1);
            Boundary.beyond("this one's", x.tell(0), -1);
            Boundary.beyond("this one's", x.fault(), 1);
        }
    }

    private static void faultWithoutOne() {
        Boundary.of("Promise 4", "0 without one.");
        RuleCourt x = fresh();
        Boundary.still("a new object", x.fault(), 0);
        x.tell(1);
        Boundary.still("a tell refused by 2", x.fault(), 0);
        Checks.tell(x, "p.");
        Boundary.still("a sound text", x.fault(), 0);
        Checks.tell(x, "p");
        Boundary.beyond("a sound text", x.fault(), 1);
        Checks.tell(x, "p.");
        Boundary.still("a sound text again", x.fault(), 0);
        x.fact(999, true);
        Boundary.still("a refused fact", x.fault(), 0);
    }

    private static void where() {
        Boundary.of("Promise 5", "Its place");
        RuleCourt x = fresh();
        Checks.tell(x, "!");
        Boundary.still("the first byte", x.where(), 0);
        Checks.tell(x, "p.".repeat(199) + " !");
        Boundary.still("the last byte", x.where(), 399);
        Checks.tell(x, "p.".repeat(199) + " p");
        Boundary.still("the end of a full TAPE", x.where(), 400);
        Checks.tell(x, "p.".repeat(199) + " .");
        Boundary.still("the last TOKEN", x.where(), 399);
        Checks.tell(x, "p.".repeat(200));
        Boundary.beyond("a FAULT", x.where(), -1);
    }

    private static void whereLatest() {
        Boundary.of("Promise 5",
            "if the latest call that may be refused was by 4; NONE else.");
        RuleCourt x = Checks.court("p(a). q(A):p(A).");
        Boundary.beyond("a sound text", x.where(), -1);
        for (int call = 0; call < 8; call++) {
            Checks.tell(x, "p(a). p");
            Boundary.still("by 4", x.where(), 6);
            x.follows(0);
            x.atom(9, 9, 9);
            x.places(9);
            x.count(9);
            x.rule(9, 9);
            Boundary.still("behind calls that tell no number", x.where(), 6);
            boolean refused = call % 2 == 0;
            switch (call / 2) {
                case 0: x.fact(refused ? 999 : 0, true); break;
                case 1: x.why(refused ? 999 : 100); break;
                case 2: x.go(refused ? 999 : 100); break;
                default: x.turned(refused ? 999 : 100, true); break;
            }
            Boundary.beyond("another call", x.where(), -1);
            Boundary.beyond("the FAULT stays", x.fault(), 2);
        }
        Checks.tell(x, "p(a). p");
        x.comes(0, 100);
        Boundary.beyond("comes", x.where(), -1);
        Checks.tell(x, "p(a). p");
        x.tell(-1);
        Boundary.beyond("a tell by 2", x.where(), -1);
        Checks.tell(x, "p(a). p");
        x.drop(1);
        Boundary.beyond("drop", x.where(), -1);
    }

    private static void atomNumber() {
        Boundary.of("Promise 6", "100 times its KIND, 10 times its first THING and its second"
            + " (0 of a PLACE that there isn't)");
        RuleCourt x = Checks.court("a(j,j).b(i,i).c(h,h).d(g,g).e(f,f).f(e,e).g(d,d).h(c,c).i(b).j.",
            "i(a).");
        Boundary.still("the least", x.atom(0, 0, 0), 0);
        Boundary.still("the greatest of two PLACES", x.atom(7, 9, 9), 799);
        Boundary.still("the first counts ten", x.atom(7, 9, 0), 790);
        Boundary.still("the second counts one", x.atom(7, 0, 9), 709);
        Boundary.still("of one PLACE", x.atom(8, 9, 0), 890);
        Boundary.still("of no PLACE", x.atom(9, 0, 0), 900);
        Boundary.beyond("one PLACE", x.atom(8, 9, 1), -1);
        Boundary.beyond("no PLACE", x.atom(9, 1, 0), -1);
        Boundary.beyond("no PLACE", x.atom(9, 0, 1), -1);
    }

    private static void atomNone() {
        Boundary.of("Promise 6", "NONE if there is none such");
        RuleCourt x = Checks.court("p(a,b). q(c).");
        Boundary.still("the last of all", x.atom(0, 2, 2), 22);
        Boundary.still("the last KIND", x.atom(1, 2, 0), 120);
        Boundary.beyond("the last KIND", x.atom(2, 0, 0), -1);
        Boundary.beyond("the last first", x.atom(0, 3, 0), -1);
        Boundary.beyond("the last second", x.atom(0, 0, 3), -1);
        Boundary.beyond("the last of one PLACE", x.atom(1, 3, 0), -1);
        for (int far : FAR) {
            Boundary.beyond("KIND " + far, x.atom(far, 0, 0), -1);
            Boundary.beyond("first " + far, x.atom(0, far, 0), -1);
            Boundary.beyond("second " + far, x.atom(0, 0, far), -1);
            Boundary.beyond("all " + far, x.atom(far, far, far), -1);
        }
        // Some that together would come to a number that there is
        Boundary.beyond("first -1, second 10", x.atom(1, -1, 10), -1);
        Boundary.beyond("first 0, second 10", x.atom(0, 0, 10), -1);
        Boundary.beyond("KIND -1, first 10", x.atom(-1, 10, 0), -1);
        // Without THINGS there is no ATOM of a KIND with PLACES.
        RuleCourt y = Checks.court("p:q(A),r(A,B).");
        Boundary.still("no THINGS, no PLACES", y.atom(0, 0, 0), 0);
        Boundary.beyond("no THINGS, one PLACE", y.atom(1, 0, 0), -1);
        Boundary.beyond("no THINGS, two PLACES", y.atom(2, 0, 0), -1);
        Checks.tell(y, "q(a).");
        Boundary.still("one THING", y.atom(2, 0, 0), 200);
        Boundary.beyond("one THING", y.atom(2, 0, 1), -1);
    }

    private static void atomPlaceThatIsnt() {
        Boundary.of("Promise 6", "(also a THING for a PLACE that isn't, but 0)");
        RuleCourt x = Checks.court("p. q(a). q(b). q(c).");
        Boundary.still("0 for both", x.atom(0, 0, 0), 0);
        Boundary.still("0 for the second", x.atom(1, 2, 0), 120);
        for (int thing : new int[] {1, 2, -1, 3, 10}) {
            Boundary.beyond("first " + thing, x.atom(0, thing, 0), -1);
            Boundary.beyond("second " + thing, x.atom(0, 0, thing), -1);
            Boundary.beyond("second of one PLACE " + thing, x.atom(1, 0, thing), -1);
        }
    }

    private static void nameByte() {
        Boundary.of("Promise 7", "Byte i of a KIND's (or THING's) WORD");
        RuleCourt x = Checks.court("z(y). abcdefgh(stuvwxyz).");
        Boundary.still("the first KIND", Checks.name(x, 0, 0, true), 'z');
        Boundary.still("the first THING", Checks.name(x, 0, 0, false), 'y');
        for (int i = 0; i < 8; i++) {
            Boundary.still("KIND's byte " + i, Checks.name(x, 1, i, true), 'a' + i);
            Boundary.still("THING's byte " + i, Checks.name(x, 1, i, false), 's' + i);
        }
        Boundary.beyond("one letter", Checks.name(x, 0, 1, true), -2);
        Boundary.beyond("one letter", Checks.name(x, 0, 1, false), -2);
        Boundary.beyond("eight letters", Checks.name(x, 1, 8, true), -2);
        Boundary.beyond("eight letters", Checks.name(x, 1, 8, false), -2);
        Boundary.beyond("the first letter", Checks.name(x, 1, -1, true), -2);
    }

    private static void nameThrows() {
        Boundary.of("Promise 7", "NoSuchElementException if there is none such");
        RuleCourt x = Checks.court("p(a,b). q(c).");
        Boundary.still("the last KIND", Checks.name(x, 1, 0, true), 'q');
        Boundary.still("the last THING", Checks.name(x, 2, 0, false), 'c');
        Boundary.beyond("the last KIND", Checks.name(x, 2, 0, true), -2);
        Boundary.beyond("the last THING", Checks.name(x, 3, 0, false), -2);
        for (int far : FAR) {
            for (boolean kind : new boolean[] {true, false}) {
                Boundary.beyond("k " + far, Checks.name(x, far, 0, kind), -2);
                Boundary.beyond("i " + far, Checks.name(x, 0, far, kind), -2);
            }
        }
        // 8 times i wraps around to 0 there.
        Boundary.beyond("i", Checks.name(x, 0, 1 << 29, true), -2);
        Boundary.beyond("i", Checks.name(x, 0, 1 << 30, false), -2);
    }

    private static void places() {
        Boundary.of("Promise 8", "PLACES of a KIND; NONE.");
        RuleCourt x = Checks.court("p. q(a). r(a,a).");
        for (int k = 0; k < 3; k++) {
            Boundary.still("KIND " + k, x.places(k), k);
        }
        Boundary.beyond("the last", x.places(3), -1);
        Boundary.beyond("the first", x.places(-1), -1);
        for (int far : FAR) {
            Boundary.beyond("KIND " + far, x.places(far), -1);
        }
        RuleCourt ten = Checks.court("a.b.c.d.e.f.g.h.i.j(a,b).");
        Boundary.still("the tenth", ten.places(9), 2);
        Boundary.beyond("ten", ten.places(10), -1);
    }

    private static void layer() {
        Boundary.of("Promise 9", "LAYER of a KIND; NONE.");
        RuleCourt x = Checks.court("p. q:not p. r:not q.");
        for (int k = 0; k < 3; k++) {
            Boundary.still("KIND " + k, x.layer(k), k);
        }
        Boundary.beyond("the last", x.layer(3), -1);
        Boundary.beyond("the first", x.layer(-1), -1);
        for (int far : FAR) {
            Boundary.beyond("KIND " + far, x.layer(far), -1);
        }
        RuleCourt ten = Checks.court("a.b.c.d.e.f.g.h.i.j:not a.");
        Boundary.still("the tenth", ten.layer(9), 1);
        Boundary.beyond("ten", ten.layer(10), -1);
        // A KIND of which nothing FOLLOWS has one too.
        Boundary.still("without CLAUSES of its own", Checks.court("a:not b.").layer(1), 0);
    }

    private static void factToldUntold() {
        Boundary.of("Promise 10", "An ATOM (by its number) is told as a FACT, or untold: 1");
        RuleCourt x = Checks.court("p(a). q(A):p(A). p(b).");
        Boundary.still("untold", x.fact(0, false), 1);
        Boundary.still("FACTS", x.count(3), 1);
        Boundary.still("no more", x.follows(0), 0);
        Boundary.still("nor what leans on it", x.follows(100), 0);
        Boundary.still("told", x.fact(0, true), 1);
        Boundary.still("FACTS", x.count(3), 2);
        Boundary.still("again", x.follows(0), 2);
        Boundary.still("and what leans on it", x.follows(100), 1);
        // Untold it stays so, whatever is told behind it.
        RuleCourt y = Checks.court("p(a). p(b).");
        y.fact(0, false);
        Checks.tell(y, "q.");
        Boundary.still("untold behind another text", y.follows(0), 0);
        Boundary.still("FACTS", y.count(3), 2);
        // One that FOLLOWS already
        Boundary.still("what FOLLOWS", x.fact(110, true), 1);
        Boundary.still("a FACT now", x.follows(110), 2);
        Boundary.still("untold", x.fact(110, false), 1);
        Boundary.beyond("a FACT", x.follows(110), 1);
    }

    private static void factSoAlready() {
        Boundary.of("Promise 10", "0 if that was so already");
        RuleCourt x = Checks.court("p(a). q(A):p(A).");
        Boundary.still("told already", x.fact(0, true), 0);
        Boundary.still("trouble", x.trouble(), 0);
        Boundary.beyond("it was told", x.fact(0, false), 1);
        Boundary.still("untold already", x.fact(0, false), 0);
        Boundary.still("FACTS", x.count(3), 0);
        Boundary.beyond("it wasn't told", x.fact(0, true), 1);
        // What FOLLOWS is no FACT yet.
        Boundary.still("untold, but it FOLLOWS", x.fact(100, false), 0);
        Boundary.still("it goes on", x.follows(100), 1);
        Boundary.beyond("told, though it FOLLOWS", x.fact(100, true), 1);
    }

    private static void factNone() {
        Boundary.of("Promise 10", "NONE (1).");
        RuleCourt x = Checks.court("p. q(a). r(b,c).");
        int[] last = {0, 120, 222};
        int[] first = {1, 10, 101, 130, 203, 223, 230, 300};
        for (int atom : last) {
            Boundary.still("ATOM " + atom, x.fact(atom, true) >= 0, true);
            Boundary.still("trouble of " + atom, x.trouble(), 0);
        }
        int facts = x.count(3);
        for (int i = 0; i < first.length + FAR.length; i++) {
            int atom = i < first.length ? first[i] : FAR[i - first.length];
            for (boolean is : new boolean[] {true, false}) {
                x.fact(0, true);
                Boundary.beyond("ATOM " + atom, x.fact(atom, is), -1);
                Boundary.beyond("trouble of " + atom, x.trouble(), 1);
            }
        }
        Boundary.still("FACTS", x.count(3), facts);
    }

    private static void dropGone() {
        Boundary.of("Promise 11", "A RULE is gone");
        RuleCourt x = Checks.court("a. b:a. c:b. b:a,a.");
        Boundary.still("drop", x.drop(0), true);
        Boundary.still("RULES", x.count(2), 2);
        Boundary.still("another RULE does it", x.follows(100), 1);
        Boundary.beyond("the other RULE", x.drop(1), true);
        Boundary.beyond("it FOLLOWS", x.follows(100), 0);
        Boundary.beyond("nor what leans on it", x.follows(200), 0);
        Boundary.still("the last", x.drop(0), true);
        Boundary.beyond("the last", x.drop(0), false);
        Boundary.still("KINDS stay", x.count(1), 3);
        Boundary.still("FACTS stay", x.count(3), 1);
    }

    private static void dropNumbers() {
        Boundary.of("Promise 11", "(those behind it have one number less)");
        for (int gone = 0; gone < 4; gone++) {
            RuleCourt x = Checks.court("a:e(A). b:e(A),e(B). c:e(A),e(B),e(C). d:e(a),e(A),e(B),e(C).");
            x.drop(gone);
            for (int r = 0; r < 3; r++) {
                int was = r < gone ? r : r + 1;
                int kind = was == 0 ? 0 : was + 1;
                if (r < gone) {
                    Boundary.still("the KIND of RULE " + r, x.rule(r, 0), kind);
                    Boundary.still("its TERMS", x.rule(r, 1), was + 1);
                } else {
                    Boundary.beyond("the KIND of RULE " + r, x.rule(r, 0), kind);
                    Boundary.beyond("its TERMS", x.rule(r, 1), was + 1);
                }
                Boundary.still("its first ARG", x.term(r, 0, 2), was == 3 ? 0 : 100);
                Boundary.still("its last TERM", x.term(r, was, 0), 0);
            }
            Boundary.beyond("the RULES", x.rule(3, 0), -1);
            Boundary.beyond("told anew, behind them", Checks.tell(x, "e(b):a."), 1);
            Boundary.beyond("told anew, behind them", x.rule(3, 0), 1);
        }
        RuleCourt full = fresh();
        for (int r = 0; r < 20; r++) {
            Checks.tell(full, r < 19 ? "p:q." : "q:r,s.");
        }
        Boundary.still("the first of twenty", full.drop(0), true);
        Boundary.still("the last has 18", full.rule(18, 1), 2);
        Boundary.beyond("the last", full.rule(19, 1), -1);
    }

    private static void dropFalse() {
        Boundary.of("Promise 11", "true; false (1).");
        RuleCourt x = Checks.court("a. b:a. c:a.");
        Boundary.beyond("the last", x.drop(2), false);
        Boundary.beyond("trouble", x.trouble(), 1);
        Boundary.beyond("the first", x.drop(-1), false);
        for (int far : FAR) {
            x.fact(0, true);
            Boundary.beyond("RULE " + far, x.drop(far), false);
            Boundary.beyond("trouble of " + far, x.trouble(), 1);
        }
        Boundary.beyond("RULES", x.count(2), 2);
        Boundary.still("the last", x.drop(1), true);
        Boundary.still("trouble", x.trouble(), 0);
        Boundary.still("the first", x.drop(0), true);
        Boundary.beyond("none left", x.drop(0), false);
    }

    private static void follows() {
        Boundary.of("Promise 12", "Whether an ATOM FOLLOWS: 1, 2 if it is a FACT, 0");
        RuleCourt x = Checks.court("a. b:a. c:b,d. d:c.");
        Boundary.still("a FACT", x.follows(0), 2);
        Boundary.still("by a RULE", x.follows(100), 1);
        Boundary.beyond("what FOLLOWS", x.follows(200), 0);
        x.fact(100, true);
        Boundary.still("a FACT and by a RULE", x.follows(100), 2);
        x.fact(0, false);
        Boundary.still("a FACT alone", x.follows(100), 2);
        x.fact(100, false);
        Boundary.beyond("what FOLLOWS", x.follows(100), 0);
        x.fact(300, true);
        x.fact(0, true);
        Boundary.still("now", x.follows(200), 1);
        x.drop(0);
        Boundary.beyond("without its RULE", x.follows(200), 0);
    }

    private static void followsNone() {
        Boundary.of("Promise 12", "0; NONE.");
        RuleCourt x = Checks.court("p. q(a). r(b,c). s:t(A).");
        int[] last = {0, 120, 222, 300, 420};
        int[] first = {1, 10, 99, 101, 130, 203, 223, 230, 301, 421, 430, 500};
        for (int atom : last) {
            Boundary.still("ATOM " + atom, x.follows(atom) >= 0, true);
        }
        for (int atom : first) {
            Boundary.beyond("ATOM " + atom, x.follows(atom), -1);
        }
        for (int atom : FAR) {
            Boundary.beyond("ATOM " + atom, x.follows(atom), -1);
        }
    }

    private static void numbersBelowZero() {
        Boundary.of("Promise 10", "An ATOM (by its number)");
        // KIND 0 has two PLACES and all ten THINGS: no number below 0 is one of its ATOMS.
        RuleCourt x = Checks.court("p(a,b).p(c,d).p(e,f).p(g,h).p(i,j). p(A,B):p(B,A).");
        Boundary.still("ATOM 0", x.fact(0, true), 1);
        Boundary.still("ATOM 0", x.steps(0), 0);
        Boundary.still("ATOM 0", x.comes(0, 0), 1);
        for (int atom = -1; atom >= -120; atom--) {
            Boundary.beyond("fact " + atom, x.fact(atom, true), -1);
            Boundary.beyond("fact " + atom, x.fact(atom, false), -1);
            Boundary.beyond("follows " + atom, x.follows(atom), -1);
            Boundary.beyond("steps " + atom, x.steps(atom), -1);
            Boundary.beyond("why " + atom, x.why(atom), -1);
            Boundary.beyond("trouble of why " + atom, x.trouble(), 1);
            Boundary.beyond("comes " + atom, x.comes(0, atom), -1);
            Boundary.beyond("go " + atom, x.go(atom), -1);
            Boundary.beyond("trouble of go " + atom, x.trouble(), 1);
            Boundary.beyond("turned " + atom, x.turned(atom, false), -1);
        }
    }

    private static void many() {
        Boundary.of("Promise 13", "How many ATOMS of a KIND FOLLOW; NONE.");
        RuleCourt x = Checks.court("p(a). p(b). q(A,B):p(A),p(B). r. s:r. t:not r. u(A):q(A,A),A#a.");
        int[] due = {2, 4, 1, 1, 0, 1};
        for (int k = 0; k < due.length; k++) {
            Boundary.still("KIND " + k, x.many(k), due[k]);
        }
        Boundary.beyond("the last KIND", x.many(6), -1);
        Boundary.beyond("the first KIND", x.many(-1), -1);
        for (int far : FAR) {
            Boundary.beyond("KIND " + far, x.many(far), -1);
        }
        RuleCourt y = Checks.court("p(a).p(b).p(c).p(d).p(e).p(f).p(g).p(h).p(i).p(j).",
            "q(A,B):p(A),p(B).");
        Boundary.still("ten", y.many(0), 10);
        Boundary.still("a hundred", y.many(1), 100);
        y.fact(90, false);
        Boundary.beyond("ten", y.many(0), 9);
        Boundary.beyond("a hundred", y.many(1), 81);
    }

    private static void one() {
        Boundary.of("Promise 14", "The i-th of them by number; NONE.");
        RuleCourt x = Checks.court("e(c,b). e(a,c). e(b,b). p(A,B):e(B,A). r. s:t.");
        // THINGS: c 0, b 1, a 2
        int[] due = {102, 110, 111};
        Boundary.still("as many", x.many(1), due.length);
        for (int i = 0; i < due.length; i++) {
            Boundary.still("the " + i + "-th", x.one(1, i), due[i]);
        }
        Boundary.beyond("the last", x.one(1, 3), -1);
        Boundary.beyond("the first", x.one(1, -1), -1);
        Boundary.still("of no PLACES", x.one(2, 0), 200);
        Boundary.beyond("the only one", x.one(2, 1), -1);
        Boundary.beyond("none of a KIND", x.one(3, 0), -1);
        Boundary.beyond("the last KIND", x.one(5, 0), -1);
        for (int far : FAR) {
            Boundary.beyond("KIND " + far, x.one(far, 0), -1);
            Boundary.beyond("i " + far, x.one(1, far), -1);
        }
        RuleCourt y = Checks.court("p(a).p(b).p(c).p(d).p(e).p(f).p(g).p(h).p(i).p(j).",
            "q(A,B):p(A),p(B).");
        for (int i = 0; i < 100; i++) {
            Boundary.still("of a hundred " + i, y.one(1, i), 100 + i);
        }
        Boundary.beyond("a hundred", y.one(1, 100), -1);
    }

    private static void steps() {
        Boundary.of("Promise 15", "STEPS of an ATOM; -2 if it doesn't FOLLOW");
        RuleCourt x = Checks.court("a. b:a. c:b. d:e. f:not a.");
        for (int k = 0; k < 3; k++) {
            Boundary.still("KIND " + k, x.steps(k * 100), k);
        }
        Boundary.beyond("what FOLLOWS", x.steps(300), -2);
        Boundary.beyond("what FOLLOWS", x.steps(500), -2);
        x.fact(0, false);
        for (int k = 0; k < 3; k++) {
            Boundary.beyond("KIND " + k, x.steps(k * 100), -2);
        }
        Boundary.still("by a refusal", x.steps(500), 1);
    }

    private static void stepsNone() {
        Boundary.of("Promise 15", "-2 if it doesn't FOLLOW; NONE.");
        RuleCourt x = Checks.court("p. q(a). r(b,c).");
        int[] last = {110, 120, 200, 222};
        int[] first = {1, 10, 101, 130, 203, 223, 230, 300};
        for (int atom : last) {
            Boundary.still("ATOM " + atom, x.steps(atom), -2);
        }
        for (int atom : first) {
            Boundary.beyond("ATOM " + atom, x.steps(atom), -1);
        }
        for (int atom : FAR) {
            Boundary.beyond("ATOM " + atom, x.steps(atom), -1);
        }
    }
}
