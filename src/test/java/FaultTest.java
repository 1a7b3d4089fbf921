/** FAULTS and their places, each text told to a new court or to one that has been told another. */
public final class FaultTest {
    private static final String TEN_THINGS =
        "p(a).p(b).p(c).p(d).p(e).p(f).p(g).p(h).p(i).p(j).";
    private static final String TEN_KINDS = "p(a).q(a,a).r.s.t.u.v.w.x.y.";
    private static final String TWENTY_RULES = "z.p:z.p:z.p:z.p:z.p:z.p:z.p:z.p:z.p:z.p:z."
        + "p:z.p:z.p:z.p:z.p:z.p:z.p:z.p:z.p:z.p:z.";

    private FaultTest() {
    }

    public static void main(String[] args) {
        sound();
        form();
        formOfTerms();
        tokens();
        places();
        signsInFacts();
        manyNames();
        manyTerms();
        manySigns();
        manyRules();
        looseSigns();
        ownRefusals();
        Checks.end("FaultTest");
    }

    private static void fault(String ahead, String text, int number, int place) {
        RuleCourt court = ahead.isEmpty() ? Checks.court() : Checks.court(ahead);
        int things = court.count(0);
        int kinds = court.count(1);
        int rules = court.count(2);
        int facts = court.count(3);
        Checks.due("tell of [" + text + "]", Checks.tell(court, text), -1);
        Checks.due("trouble of [" + text + "]", court.trouble(), 4);
        Checks.due("fault of [" + text + "]", court.fault(), number);
        Checks.due("where of [" + text + "]", court.where(), place);
        Checks.due("THINGS behind [" + text + "]", court.count(0), things);
        Checks.due("KINDS behind [" + text + "]", court.count(1), kinds);
        Checks.due("RULES behind [" + text + "]", court.count(2), rules);
        Checks.due("FACTS behind [" + text + "]", court.count(3), facts);
    }

    private static void fault(String text, int number, int place) {
        fault("", text, number, place);
    }

    private static void sound(String text, int clauses) {
        RuleCourt court = new RuleCourt();
        Checks.due("tell of [" + text + "]", Checks.tell(court, text), clauses);
        Checks.due("fault of [" + text + "]", court.fault(), 0);
        Checks.due("where of [" + text + "]", court.where(), -1);
    }

    private static void sound() {
        sound("p.", 1);
        sound("\n p \n . ", 1);
        sound("p(a)q(b,c).".replace(")q", ").q"), 2);
        sound("abcdefgh ( abcdefgh , abcdefgh ) .", 1);
        sound("p:q.", 1);
        sound("p:not q.", 1);
        sound("p:notq.", 1);
        sound("p:not#a.", 1);
        sound("p:not # not.", 1);
        sound("p(not).", 1);
        sound("p(not,not):q(not),not r(not).", 1);
        sound("p:a#b,b#c,c#d,d#e.", 1);
        sound("p(A):q(A),A#a,a#A,not r(A).", 1);
        sound("p(A,B):q(B,A).", 1);
        sound("p(H,G):q(G,F),q(F,H).", 1);
        sound("a(a):b(b),b#b. b(a).", 2);
        sound("p:A#B,q(B,A).", 1);
        sound("p:not q(A),r(A).", 1);
        sound(TEN_THINGS, 10);
        sound(TEN_KINDS, 10);
        sound(TWENTY_RULES, 21);
        StringBuilder longest = new StringBuilder();
        for (int i = 0; i < 200; i++) {
            longest.append("p.");
        }
        sound(longest.toString(), 200);
    }

    private static void form() {
        fault("", 1, 0);
        fault("   ", 1, 3);
        fault("\n", 1, 1);
        fault(".", 1, 0);
        fault("p", 1, 1);
        fault("p  ", 1, 3);
        fault("p. q", 1, 4);
        fault("p..", 1, 2);
        fault("p q.", 1, 2);
        fault("not.", 1, 0);
        fault("not p.", 1, 0);
        fault("not # a.", 1, 0);
        fault("a # b.", 1, 2);
        fault("A.", 1, 0);
        fault("p().", 1, 2);
        fault("p(", 1, 2);
        fault("p(a", 1, 3);
        fault("p(a,", 1, 4);
        fault("p(a,).", 1, 4);
        fault("p(a b).", 1, 4);
        fault("p(a,b", 1, 5);
        fault("p(a,b,c).", 1, 5);
        fault("p((a)).", 1, 2);
        fault("p(a)", 1, 4);
        fault("p(a)(b).", 1, 4);
        fault("p(a)).", 1, 4);
        fault("p(a.", 1, 3);
        fault("p(a:b).", 1, 3);
        fault("p,q.", 1, 1);
        fault("p#q.", 1, 1);
        fault("p. A", 1, 3);
        fault("(p).", 1, 0);
        fault("p(A) q.", 1, 5);
        fault("p(AB).", 1, 3);
        fault("p(aB).", 1, 3);
    }

    private static void formOfTerms() {
        fault("p:", 1, 2);
        fault("p:.", 1, 2);
        fault("p::q.", 1, 2);
        fault("p:q", 1, 3);
        fault("p:q,", 1, 4);
        fault("p:q,.", 1, 4);
        fault("p:q,,r.", 1, 4);
        fault("p:q r.", 1, 4);
        fault("p:q:r.", 1, 3);
        fault("p:not", 1, 5);
        fault("p:not.", 1, 5);
        fault("p:not,q.", 1, 5);
        fault("p:not(a).", 1, 5);
        fault("p:not A.", 1, 6);
        fault("p:not not q.", 1, 6);
        fault("p:not not # a.", 1, 6);
        fault("p:not a # b.", 1, 8);
        fault("p:A.", 1, 3);
        fault("p:A", 1, 3);
        fault("p:A(a).", 1, 3);
        fault("p:A,q(A).", 1, 3);
        fault("p:A B.", 1, 4);
        fault("p:# a.", 1, 2);
        fault("p:a #.", 1, 5);
        fault("p:a #", 1, 5);
        fault("p:a # b # c.", 1, 8);
        fault("p:a # b(c).", 1, 7);
        fault("p:a # (b).", 1, 6);
        fault("p:q(a) # b.", 1, 7);
        fault("p:q(a,b,c).", 1, 7);
        fault("p:(q).", 1, 2);
    }

    private static void tokens() {
        fault("P.", 1, 0);
        fault("p(I).", 1, 2);
        fault("p(Z).", 1, 2);
        fault("p\t.", 1, 1);
        fault("p\r\n.", 1, 1);
        fault("p1.", 1, 1);
        fault("p;", 1, 1);
        fault("p" + (char) 0 + ".", 1, 1);
        fault("p" + (char) 255 + ".", 1, 1);
        fault("p" + (char) 0xe1 + ".", 1, 1);
        fault("`.", 1, 0);
        fault("{.", 1, 0);
        fault("@.", 1, 0);
        fault("p(a). !", 1, 6);
        // A byte that begins no TOKEN matters only if nothing is met ahead of it.
        fault("p q !", 1, 2);
        // Nine letters that stand together are no WORD.
        fault("abcdefghi.", 1, 0);
        fault("p(abcdefghi).", 1, 2);
        fault("p:abcdefghijklmnop # a.", 1, 2);
        fault("p. abcdefghi", 1, 3);
        sound("abcdefgh.", 1);
        // So they aren't if the text ends in them, unless it ends behind the eighth.
        RuleCourt court = new RuleCourt();
        Checks.feed(court, "p(a):abcdefghij.".getBytes());
        court.tell(13);
        Checks.due("the end behind the eighth letter", court.where(), 13);
        Checks.feed(court, "p(a):abcdefghij.".getBytes());
        court.tell(14);
        Checks.due("the end behind the ninth letter", court.where(), 5);
    }

    private static void places() {
        fault("p(a). p.", 2, 6);
        fault("p. p(a).", 2, 3);
        fault("p(a). p(a,b).", 2, 6);
        fault("p(a,b). p(a).", 2, 8);
        fault("p(A):p(A,B).", 2, 5);
        fault("p:q(a),not q.", 2, 11);
        fault("p:q(a), q(a,b), r.", 2, 8);
        fault("p(a).", "p.", 2, 0);
        fault("p(a).", "q:not p.", 2, 6);
        fault("p(a).", "p:q.", 2, 0);
        // Met behind its ARGS, ahead of what stands behind them
        fault("p(a).", "p q.", 2, 0);
        fault("p(a).", "p !", 2, 0);
        fault("p(a).", "p", 2, 0);
        fault("p(a).", "p(a,b) !", 2, 0);
        // A FAULT within the ARGS is met first.
        fault("p(a).", "p(a,b", 1, 5);
        fault("p(a).", "p(a,b!", 1, 5);
        fault("p(a).", "p(a,(", 1, 4);
        fault(TEN_THINGS, "p(a,k).", 4, 4);
        // Ahead of a SIGN in the FACT
        fault("p(a).", "p(A,B).", 2, 0);
    }

    private static void signsInFacts() {
        fault("p(A).", 3, 2);
        fault("p(a,B).", 3, 4);
        fault("p(A,B).", 3, 2);
        fault("p( H ).", 3, 3);
        fault("p(a). q(b,A). r(A).", 3, 10);
        // Asked at its .
        fault("p(A)", 1, 4);
        fault("p(A),", 1, 4);
        fault(TEN_THINGS, "q(A,k).", 4, 4);
    }

    private static void manyNames() {
        fault(TEN_THINGS, "p(k).", 4, 2);
        fault(TEN_THINGS, "p(a). p(k) !", 4, 8);
        fault(TEN_THINGS, "q(a,k).", 4, 4);
        fault(TEN_THINGS, "q:k # a.", 4, 2);
        fault(TEN_THINGS, "q:a # k.", 4, 6);
        fault(TEN_THINGS, "q:not # a.", 4, 2);
        fault(TEN_THINGS + "p(k).", 4, 52);
        fault(TEN_KINDS, "z.", 4, 0);
        fault(TEN_KINDS, "r:z.", 4, 2);
        fault(TEN_KINDS, "r:not z(a).", 4, 6);
        fault(TEN_KINDS, "r:z !", 4, 2);
        fault(TEN_KINDS, "z(", 4, 0);
        // not is no KIND's WORD.
        fault(TEN_KINDS, "not.", 1, 0);
        // THINGS have names of their own.
        RuleCourt court = Checks.court(TEN_KINDS);
        Checks.due("a THING with a new WORD", Checks.tell(court, "p(z)."), 1);
        Checks.due("a THING with a KIND's WORD", Checks.tell(court, "p(q)."), 1);
    }

    private static void manyTerms() {
        fault("p:q,q,q,q,q.", 4, 10);
        fault("p:q,q,q,q,not q.", 4, 10);
        fault("p:q,q,q,q,a#b.", 4, 10);
        fault("p:q,q,q,q,A#b.", 4, 10);
        fault("p:q,q,q,q, q", 4, 11);
        fault("p:a#b,a#b,a#b,a#b,c#d.", 4, 18);
        fault("p:q,q,q,q,A.", 4, 10);
        fault("p:q,q,q,q,not.", 4, 10);
        // What may not stand there is of no FORM.
        fault("p:q,q,q,q,.", 1, 10);
        fault("p:q,q,q,q,", 1, 10);
        fault("p:q,q,q,q,(.", 1, 10);
        fault("p:q,q,q,q,!", 1, 10);
        fault("p:q,q,q,q,abcdefghi.", 1, 10);
        fault("p:q,q,q,q#", 1, 10);
        fault("p:q,q,q,q", 1, 9);
    }

    private static void manySigns() {
        fault("p(A):q(A,B),r(C,D).", 4, 16);
        fault("p(A,B):q(C,D).", 4, 11);
        fault("p(A,B):q(A,B),C#D,q(C,D).", 4, 16);
        fault("p:q(A,B),q(C,A),not q(D,A).", 4, 22);
        fault("p:q(A,B),q(C,A),D#a.", 4, 16);
        fault("p:q(A,B),q(C,A),D.", 4, 16);
        fault("p:q(A,B),q(C,A),D", 4, 16);
        // A SIGN that may not stand there is of no FORM.
        fault("p:q(A,B),q(C,A)D.", 1, 15);
        sound("p:q(A,B),q(C,A),q(B,C). p:q(D,E),q(F,D).", 2);
    }

    private static void manyRules() {
        fault(TWENTY_RULES, "p:z.", 4, 1);
        fault(TWENTY_RULES, "z. p :", 4, 5);
        fault(TWENTY_RULES, "p(a):z.", 2, 0);
        fault(TWENTY_RULES + "p:z.", 4, 83);
        fault("p:z.", TWENTY_RULES, 4, 79);
        RuleCourt court = Checks.court(TWENTY_RULES);
        Checks.due("a FACT behind twenty RULES", Checks.tell(court, "y."), 1);
    }

    private static void looseSigns() {
        fault("p(A):q.", 5, 2);
        fault("p(a,A):q(B,B).", 5, 4);
        fault("p(A,B):q(A,A).", 5, 4);
        fault("p(A,B):q(B,B).", 5, 2);
        fault("p:not q(A).", 5, 8);
        fault("p:q(A),not r(A,B).", 5, 15);
        fault("p:q(A),A#B.", 5, 9);
        fault("p:q(A),B#A.", 5, 7);
        fault("p:A#A.", 5, 2);
        fault("p(A):A#b,not q(A).", 5, 2);
        fault("p:not q(A),B#C,r(B).", 5, 8);
        fault("p:r(B),B#C,not q(A).", 5, 9);
        // Asked at its .
        fault("p(A):q", 1, 6);
        fault("p(A):q,", 1, 7);
        fault("p(A):q. p(B):q.", 5, 2);
        fault("p:q(A). p:not q(A).", 5, 16);
    }

    private static void ownRefusals() {
        fault("p:not p.", 6, 0);
        fault("p(a):not p(b).", 6, 0);
        fault(" p:not q. q:p.", 6, 10);
        fault("q:p. r:s. p:not q. t:u.", 6, 10);
        fault("p:not q. q:not p. r:not r.", 6, 9);
        fault("a:b. b:c. c:d. d:not a. a:not a.", 6, 15);
        fault("p:not q.", "z. q:r. r:p. z:q.", 6, 8);
        fault("q:r. r:p.", "p:q. x:y. p:r, not q.", 6, 10);
        // Behind a whole text without others
        fault("p:not p. q", 1, 10);
        fault("p:not p. p(a).", 2, 9);
        fault("p:not p. q(A).", 3, 11);
        fault("p:not p. q(A):p.", 5, 11);
        sound("p:p. q:q,not p. r:not q,not p.", 3);
        RuleCourt court = Checks.court("p:not q.");
        Checks.tell(court, "q:p.");
        Checks.due("the LAYER of p stays", court.layer(0), 1);
        Checks.due("the LAYER of q stays", court.layer(1), 0);
        Checks.due("LAYERS stay", court.count(5), 2);
        court.drop(0);
        Checks.due("without that RULE", Checks.tell(court, "q:p."), 1);
    }
}
