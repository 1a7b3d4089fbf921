/** The boundary cases of the Terms I (BOUNDS) and II (TEXTS, without the FAULTS). */
public final class BoundaryBoundsTest {
    private static final String TEN_THINGS =
        "p(a).p(b).p(c).p(d).p(e).p(f).p(g).p(h).p(i).p(j).";
    private static final String TEN_KINDS = "p(a).q(a,a).r.s.t.u.v.w.x.y.";

    private BoundaryBoundsTest() {
    }

    public static void main(String[] args) {
        calls();
        things();
        kinds();
        placesOfKinds();
        rules();
        terms();
        signs();
        atoms();
        thousandAtoms();
        tape();
        blanks();
        words();
        wordsByTheirLetters();
        greatLetters();
        singleOnes();
        texts();
        clauses();
        formsOfAtoms();
        formsOfTerms();
        args();
        notIsNoKind();
        named();
        wordsOfKindsAndThings();
        wordAheadOfUnlike();
        Boundary.end("BoundaryBoundsTest");
    }

    private static RuleCourt fresh() {
        return new RuleCourt();
    }

    private static void calls() {
        Boundary.of("Use", "An object is used for at most 512 calls after it has been made");
        RuleCourt x = fresh();
        int made = 0;
        for (int round = 0; round < 50; round++) {
            // "p(A):q(A)." and "q(a).", told again and again, and the RULE dropped
            x.feed(0x70284129, 0x3a712841, 0x292e7128, 0x61292e20, 0x20202020);
            x.tell(20);
            x.follows(0);
            x.go(0);
            x.why(0);
            x.turned(100, true);
            x.rule(0, 4);
            x.drop(0);
            x.fact(100, false);
            x.deepest();
            made += 10;
        }
        for (int call = made; call < 510; call++) {
            x.count(0);
        }
        Boundary.still("call 511", x.fact(100, true), 1);
        Boundary.still("call 512", x.many(1), 1);
        // What later calls answer is free, but nothing is thrown.
        int later = 0;
        for (int call = 0; call < 3000; call++) {
            x.feed(call, call, call, call, call);
            x.tell(call % 30);
            x.fact(call % 300, call % 2 == 0);
            x.go(call % 300);
            later++;
        }
        Boundary.beyond("later calls end", later, 3000);
    }

    private static void things() {
        Boundary.of("Term I", "THINGS 10");
        RuleCourt x = Boundary.told(fresh(), "p(a).p(b).p(c).p(d).p(e).p(f).p(g).p(h).p(i).", 9);
        Boundary.told(x, "q(A):p(A),A#j.", 1);
        Boundary.still("ten THINGS", x.count(0), 10);
        Boundary.told(x, "p(j).p(a).q(i).", 3);
        Boundary.refused(x, "p(k).", 4, 2);
        Boundary.refused(x, "q(A):p(A),A#k.", 4, 12);
        Boundary.refused(x, "r:not p(k).", 4, 8);
        Boundary.refused(fresh(), TEN_THINGS + "p(k).", 4, 52);
        RuleCourt two = Boundary.told(fresh(), "p(a,b).p(c,d).p(e,f).p(g,h).p(i,j).", 5);
        Boundary.still("ten by two PLACES", two.count(0), 10);
        Boundary.refused(two, "p(a,k).", 4, 4);
        Boundary.refused(two, "p(k,a).", 4, 2);
    }

    private static void kinds() {
        Boundary.of("Term I", "KINDS 10");
        RuleCourt x = Boundary.told(fresh(), "p(a).q(a,a).r.s.t.u.v.w.x.", 9);
        Boundary.told(x, "r:not y.", 1);
        Boundary.still("ten KINDS", x.count(1), 10);
        Boundary.told(x, "y.p(b).", 2);
        Boundary.refused(x, "z.", 4, 0);
        Boundary.refused(x, "p(a). z(a).", 4, 6);
        Boundary.refused(x, "r:z.", 4, 2);
        Boundary.refused(x, "r:not z.", 4, 6);
        Boundary.refused(fresh(), TEN_KINDS + "z.", 4, 28);
    }

    private static void placesOfKinds() {
        Boundary.of("Term I", "KINDS 10 (of 0, 1 or 2 PLACES)");
        RuleCourt x = Boundary.told(fresh(), "p. q(a). r(a,b).", 3);
        for (int k = 0; k < 3; k++) {
            Boundary.still("PLACES of KIND " + k, x.places(k), k);
        }
        Boundary.refused(x, "s(a,b,a).", 1, 5);
        Boundary.refused(x, "s().", 1, 2);
    }

    private static void rules() {
        Boundary.of("Term I", "RULES 20");
        RuleCourt x = fresh();
        for (int r = 0; r < 20; r++) {
            Boundary.told(x, "p:q.", 1);
            Boundary.still("RULES", x.count(2), r + 1);
        }
        Boundary.still("the last RULE", x.rule(19, 0), 0);
        Boundary.refused(x, "p:q.", 4, 1);
        Boundary.beyond("a RULE behind the last", x.rule(20, 0), -1);
        x.drop(19);
        Boundary.told(x, "q.p:q.", 2);
        Boundary.refused(x, "r. p:q.", 4, 4);
    }

    private static void terms() {
        Boundary.of("Term I", "RULES 20 of 1 to 4 TERMS");
        RuleCourt x = Boundary.told(fresh(), "p:q.", 1);
        Boundary.still("one TERM", x.rule(0, 1), 1);
        Boundary.told(x, "p:q,not r,a#b,q.", 1);
        Boundary.still("four TERMS", x.rule(1, 1), 4);
        Boundary.still("the fourth", x.term(1, 3, 0), 0);
        Boundary.refused(x, "p:.", 1, 2);
        Boundary.refused(x, "p:q,not r,a#b,q,q.", 4, 16);
        Boundary.beyond("a fifth", x.term(1, 4, 0), -1);
    }

    private static void signs() {
        Boundary.of("Term I", "SIGNS of a RULE 3");
        RuleCourt x = Boundary.told(fresh(), "p(A,B):q(A,B),q(B,C),q(C,A).", 1);
        Boundary.still("three SIGNS", x.rule(0, 2), 3);
        // Those of another RULE are others.
        Boundary.told(x, "p(D,E):q(D,E),q(E,F). p(G,H):q(G,H),q(H,A).", 2);
        Boundary.still("three SIGNS", x.rule(2, 2), 3);
        Boundary.refused(x, "p(A,B):q(A,B),q(B,C),q(C,D).", 4, 25);
        Boundary.refused(x, "p(A,B):q(A,C),q(B,D).", 4, 18);
        Boundary.refused(x, "p(A,B):q(A,B),q(B,C),C#D.", 4, 23);
        Boundary.refused(x, "p(A,B):q(A,B),q(B,C),not q(C,D).", 4, 29);
    }

    private static void atoms() {
        Boundary.of("Term I", "An ATOM: a KIND and as many THINGS as it has PLACES");
        RuleCourt x = Checks.court("r. s(a). t(b,c).");
        int[] atoms = {0, 100, 120, 200, 222};
        int[] none = {1, 10, 30, 101, 112, 130, 190, 203, 223, 230, 232, 233, 300};
        for (int atom : atoms) {
            Boundary.still("ATOM " + atom, x.steps(atom) != -1, true);
        }
        for (int atom : none) {
            Boundary.beyond("ATOM " + atom, x.steps(atom), -1);
        }
    }

    private static void thousandAtoms() {
        Boundary.of("Term I", "1,000 of them at most");
        RuleCourt x = Checks.court(
            "a(a,a).a(b,b).a(c,c).a(d,d).a(e,e).a(f,f).a(g,g).a(h,h).a(i,i).a(j,j).",
            "a(A,B):a(A,A),a(B,B).b(A,B):a(A,B).c(A,B):b(A,B).d(A,B):c(A,B).e(A,B):d(A,B).",
            "f(A,B):e(A,B).g(A,B):f(A,B).h(A,B):g(A,B).i(A,B):h(A,B).j(A,B):i(A,B).");
        Boundary.still("all but the FACTS", x.derived(), 990);
        Boundary.still("a hundred of the last KIND", x.many(9), 100);
        Boundary.still("the last ATOM", x.one(9, 99), 999);
        Boundary.still("its STEPS", x.steps(999), 9);
        Boundary.still("the deepest", x.deepest(), 10);
        Boundary.still("it is told", x.fact(999, true), 1);
        Boundary.beyond("the last", x.one(9, 100), -1);
        Boundary.beyond("an ATOM 1000", x.follows(1000), -1);
        Boundary.beyond("an ATOM 1000 is told", x.fact(1000, true), -1);
    }

    private static void tape() {
        Boundary.of("Term II", "THE TAPE has 400 bytes");
        RuleCourt x = fresh();
        for (int f = 0; f < 19; f++) {
            x.feed(0x20202020, 0x20202020, 0x20202020, 0x20202020, 0x20202020);
        }
        Boundary.still("the last 20", x.feed(0x20202020, 0x20202020, 0x20202020, 0x20202020,
            0x2020702e), 400);
        Boundary.beyond("20 more", x.feed(0x712e712e, 0x712e712e, 0x712e712e, 0x712e712e,
            0x712e712e), -1);
        Boundary.beyond("400", x.count(4), 400);
        Boundary.beyond("its bytes", x.tell(401), -1);
        Boundary.still("the last byte", x.tell(400), 1);
        Boundary.still("one KIND", x.count(1), 1);
    }

    private static void blanks() {
        Boundary.of("Term II", "blanks, 32, and 10s part TOKENS and mean nothing else");
        String spread = " \n p \n( a , B )\n : \n q ( B ) , not r , a # B \n . \n ";
        RuleCourt x = Boundary.told(fresh(), spread, 1);
        RuleCourt y = Boundary.told(fresh(), spread.replaceAll("[ \n]", "").replace("notr", "not r"),
            1);
        for (int what = 0; what < 6; what++) {
            Boundary.still("count " + what, x.count(what), y.count(what));
        }
        Boundary.told(fresh(), "p:not\nr.", 1);
        RuleCourt z = Boundary.told(fresh(), "p:notr.", 1);
        Boundary.beyond("no blank behind not", z.term(0, 0, 0), 0);
        Boundary.refused(fresh(), "p:no t r.", 1, 5);
        Boundary.refused(fresh(), "ab cd.", 1, 3);
        Boundary.refused(fresh(), "ab\ncd.", 1, 3);
        for (int b : new int[] {0, 9, 11, 12, 13, 31, 33, 127, 160, 255}) {
            Boundary.refused(fresh(), "p" + (char) b + ".", 1, 1);
        }
        for (int b : new int[] {10, 32}) {
            Boundary.told(fresh(), "p" + (char) b + ".", 1);
        }
    }

    private static void words() {
        Boundary.of("Term II", "WORDS of 1 to 8 small letters that stand together");
        RuleCourt x = Boundary.told(fresh(), "a(z):abcdefgh(zyxwvuts),stuvwxyz#s,not klmnopqr.", 1);
        Boundary.still("THINGS", x.count(0), 4);
        Boundary.still("KINDS", x.count(1), 3);
        Boundary.still("the first of 8", Checks.name(x, 1, 0, true), 'a');
        Boundary.still("the last of 8", Checks.name(x, 1, 7, true), 'h');
        Boundary.still("the last of 8", Checks.name(x, 1, 7, false), 's');
        Boundary.beyond("a ninth", Checks.name(x, 1, 8, true), -2);
        Boundary.refused(fresh(), "abcdefghi.", 1, 0);
        Boundary.refused(fresh(), "p(abcdefghi).", 1, 2);
        Boundary.refused(fresh(), "p:not abcdefghi.", 1, 6);
        Boundary.refused(fresh(), "p:abcdefghi#a.", 1, 2);
        Boundary.refused(fresh(), "p:a#abcdefghi.", 1, 4);
        Boundary.refused(fresh(), "p. abcdefghijklmnopqrstuvwxyz.", 1, 3);
        // Eight letters and one more that don't stand together are two WORDS.
        Boundary.refused(fresh(), "abcdefgh i.", 1, 9);
        Boundary.told(fresh(), "abcdefgh.i.", 2);
        Boundary.told(fresh(), "a.z.", 2);
        for (char b : new char[] {'`', '{', '0', '_', (char) 0xe1, (char) 0xfa}) {
            Boundary.refused(fresh(), "p" + b + ".", 1, 1);
            Boundary.refused(fresh(), b + "p.", 1, 0);
        }
    }

    private static void wordsByTheirLetters() {
        Boundary.of("Term II", "TOKENS: WORDS of 1 to 8 small letters");
        RuleCourt x = Boundary.told(fresh(),
            "p(a).p(aa).p(abcdefgh).p(abcdefg).p(abcdefgi).p(bbcdefgh).", 6);
        Boundary.still("six WORDS that aren't the same", x.count(0), 6);
        Boundary.told(x, "p(a).p(aa).p(abcdefgh).p(abcdefg).p(abcdefgi).p(bbcdefgh).", 6);
        Boundary.beyond("they are the same", x.count(0), 6);
        Boundary.beyond("they are the same FACTS", x.count(3), 6);
    }

    private static void greatLetters() {
        Boundary.of("Term II", "SIGNS: single great letters A .. H");
        for (char sign = 'A'; sign <= 'H'; sign++) {
            Boundary.told(fresh(), "p(" + sign + "):q(" + sign + ").", 1);
        }
        for (char b : new char[] {'@', 'I', 'J', 'P', 'Z', '[', (char) 0xc1, (char) 0xc8}) {
            Boundary.refused(fresh(), "p(" + b + "):q(" + b + ").", 1, 2);
        }
        Boundary.refused(fresh(), "p(AA):q(A).", 1, 3);
        Boundary.refused(fresh(), "p(AB):q(A,B).", 1, 3);
        Boundary.refused(fresh(), "p(Aa):q(A).", 1, 3);
        Boundary.refused(fresh(), "p(aA):q(A).", 1, 3);
        // Two that stand together are two.
        Boundary.told(fresh(), "p:q(A,B),A#B.", 1);
        RuleCourt x = Boundary.told(fresh(), "p(A,H):q(A,H).", 1);
        Boundary.still("two SIGNS", x.rule(0, 2), 2);
    }

    private static void singleOnes() {
        Boundary.of("Term II", "single ones of ( ) , . : #");
        String text = "p(a,b):q(a),c#d.";
        for (int at = 0; at < text.length(); at++) {
            char due = text.charAt(at);
            boolean isLetter = due >= 'a' && due <= 'z';
            for (int b = 0; b < 256 && !isLetter; b++) {
                String changed = text.substring(0, at) + (char) b + text.substring(at + 1);
                // A letter joins two WORDS; of c,d and c.d. each is an ATOM.
                boolean joins = b >= 'a' && b <= 'z' && (due == '#' || at == 3);
                boolean parts = (b == ',' || b == '.') && due == '#';
                if (b == due || joins || parts) {
                    Boundary.still("[" + changed + "]", Checks.tell(fresh(), changed),
                        parts && b == '.' ? 2 : 1);
                } else {
                    Boundary.beyond("[" + changed + "]", Checks.tell(fresh(), changed), -1);
                }
            }
        }
        Boundary.refused(fresh(), "p..", 1, 2);
        Boundary.refused(fresh(), "p((a)).", 1, 2);
        Boundary.refused(fresh(), "p(a)).", 1, 4);
        Boundary.refused(fresh(), "p(a,,b).", 1, 4);
        Boundary.refused(fresh(), "p::q.", 1, 2);
        Boundary.refused(fresh(), "p:a##b.", 1, 4);
    }

    private static void texts() {
        Boundary.of("Term II", "TEXT: CLAUSE {CLAUSE}.");
        StringBuilder most = new StringBuilder();
        for (int i = 0; i < 200; i++) {
            most.append("p.");
        }
        Boundary.told(fresh(), "p.", 1);
        Boundary.told(fresh(), "p.q:p.", 2);
        Boundary.told(fresh(), most.toString(), 200);
        Boundary.refused(fresh(), "", 1, 0);
        Boundary.refused(fresh(), " \n", 1, 2);
        Boundary.refused(fresh(), most.substring(0, 399), 1, 399);
        Boundary.refused(fresh(), most.substring(0, 398) + "..", 1, 398);
    }

    private static void clauses() {
        Boundary.of("Term II", "CLAUSE: ATOM . or ATOM : TERM {, TERM} .");
        RuleCourt x = Boundary.told(fresh(), "p. p:q. p:q,q. p:q,q,q.", 4);
        Boundary.still("a FACT", x.count(3), 1);
        Boundary.still("RULES", x.count(2), 3);
        Boundary.refused(x, "p", 1, 1);
        Boundary.refused(x, ".", 1, 0);
        Boundary.refused(x, "p:", 1, 2);
        Boundary.refused(x, "p:.", 1, 2);
        Boundary.refused(x, ":q.", 1, 0);
        Boundary.refused(x, "p:q,.", 1, 4);
        Boundary.refused(x, "p:,q.", 1, 2);
        Boundary.refused(x, "p:q,q", 1, 5);
        Boundary.refused(x, "p:q:q.", 1, 3);
        Boundary.refused(x, "p,q.", 1, 1);
        Boundary.refused(x, "p q.", 1, 2);
    }

    private static void formsOfAtoms() {
        Boundary.of("Term II", "ATOM: KIND [( ARG [, ARG] )].");
        Boundary.told(fresh(), "p. q(a). r(a,b).", 3);
        Boundary.refused(fresh(), "p().", 1, 2);
        Boundary.refused(fresh(), "p(,a).", 1, 2);
        Boundary.refused(fresh(), "p(a,).", 1, 4);
        Boundary.refused(fresh(), "p(a b).", 1, 4);
        Boundary.refused(fresh(), "p(a,b,).", 1, 5);
        Boundary.refused(fresh(), "p(a,b c).", 1, 6);
        Boundary.refused(fresh(), "p(a.", 1, 3);
        Boundary.refused(fresh(), "p a).", 1, 2);
        Boundary.refused(fresh(), "(a).", 1, 0);
        Boundary.refused(fresh(), "p(a)(b).", 1, 4);
        Boundary.refused(fresh(), "A(a).", 1, 0);
    }

    private static void formsOfTerms() {
        Boundary.of("Term II", "TERM: ATOM, not ATOM, ARG # ARG (unlike).");
        RuleCourt x = Boundary.told(fresh(), "p:q(A,B),not r(A),A#B,A#a. p:a#B,q(a,B),a#b.", 2);
        int[] types = {0, 1, 2, 2};
        for (int i = 0; i < 4; i++) {
            Boundary.still("TERM " + i, x.term(0, i, 0), types[i]);
        }
        Boundary.refused(x, "p:not.", 1, 5);
        Boundary.refused(x, "p:not not r.", 1, 6);
        Boundary.refused(x, "p:not a#b.", 1, 7);
        Boundary.refused(x, "p:not A.", 1, 6);
        Boundary.refused(x, "p:not A#B.", 1, 6);
        Boundary.refused(x, "p:A.", 1, 3);
        Boundary.refused(x, "p:A#.", 1, 4);
        Boundary.refused(x, "p:#A.", 1, 2);
        Boundary.refused(x, "p:a#b#c.", 1, 5);
        Boundary.refused(x, "p:s(a)#b.", 1, 6);
        Boundary.refused(x, "p:a#s(b).", 1, 5);
        Boundary.refused(x, "not p:q.", 1, 0);
        Boundary.refused(x, "a#b:q.", 1, 1);
    }

    private static void args() {
        Boundary.of("Term II", "ARG: a THING's WORD or a SIGN");
        RuleCourt x = Boundary.told(fresh(), "p(a,A):q(A,b),A#c,d#A.", 1);
        Boundary.still("THINGS", x.count(0), 4);
        Boundary.still("SIGNS", x.rule(0, 2), 1);
        String[] none = {"(", ")", ",", ".", ":", "#"};
        for (String arg : none) {
            Boundary.refused(x, "s(" + arg, 1, 2);
            Boundary.refused(x, "s(a," + arg, 1, 4);
            Boundary.refused(x, "s:a#" + arg, 1, 4);
        }
    }

    private static void notIsNoKind() {
        Boundary.of("Term II", "KIND: a WORD that isn't not.");
        Boundary.told(fresh(), "no. nots. nott. ot. nt. n. noto. ton. nota:nots.", 9);
        Boundary.refused(fresh(), "not.", 1, 0);
        Boundary.refused(fresh(), "not(a).", 1, 0);
        Boundary.refused(fresh(), "not:q.", 1, 0);
        Boundary.refused(fresh(), "p:not.", 1, 5);
        Boundary.refused(fresh(), "p:not(a).", 1, 5);
        Boundary.refused(fresh(), "p:not,q.", 1, 5);
        RuleCourt x = Boundary.told(fresh(), "p(not):nots(not),not q(not,not).", 1);
        Boundary.still("a THING is", x.count(0), 1);
        Boundary.still("nots is a KIND", x.term(0, 0, 0), 0);
        Boundary.beyond("not refuses", x.term(0, 1, 0), 1);
    }

    private static void named() {
        Boundary.of("Term II", "KINDS and THINGS are there once they are named");
        RuleCourt x = fresh();
        Boundary.beyond("a KIND that isn't named", x.places(0), -1);
        Boundary.told(x, "p(a):q(b),not r(c),d#e. s(f,a).", 2);
        String kinds = "pqrs";
        String things = "abcdef";
        for (int k = 0; k < kinds.length(); k++) {
            Boundary.still("KIND " + k, Checks.name(x, k, 0, true), kinds.charAt(k));
        }
        for (int k = 0; k < things.length(); k++) {
            Boundary.still("THING " + k, Checks.name(x, k, 0, false), things.charAt(k));
        }
        Boundary.beyond("the KINDS that are named", Checks.name(x, 4, 0, true), -2);
        Boundary.beyond("the THINGS that are named", Checks.name(x, 6, 0, false), -2);
        x.drop(0);
        x.fact(350, false);
        Boundary.still("KINDS without CLAUSES", x.count(1), 4);
        Boundary.still("THINGS without CLAUSES", x.count(0), 6);
    }

    private static void wordsOfKindsAndThings() {
        Boundary.of("Term II", "their WORDS are of no matter to one another");
        RuleCourt x = Boundary.told(fresh(), "a. p(b). b(p,a).", 3);
        Boundary.still("KIND b", Checks.name(x, 2, 0, true), 'b');
        Boundary.still("THING b", Checks.name(x, 0, 0, false), 'b');
        Boundary.still("KINDS", x.count(1), 3);
        Boundary.still("THINGS", x.count(0), 3);
        Boundary.told(Checks.court(TEN_KINDS), "p(z).p(p).", 2);
        Boundary.told(Checks.court(TEN_THINGS), "k.a(a,b).", 2);
        // Of two KINDS they are.
        Boundary.refused(x, "b.", 2, 0);
        Boundary.refused(Checks.court(TEN_KINDS), "z.", 4, 0);
    }

    private static void wordAheadOfUnlike() {
        Boundary.of("Term II", "(A WORD that begins a TERM is a THING's if # stands behind it.)");
        RuleCourt x = Boundary.told(fresh(), "p:q # a, r \n # \n q, not # not.", 1);
        for (int i = 0; i < 3; i++) {
            Boundary.still("TERM " + i + " unlike", x.term(0, i, 0), 2);
        }
        Boundary.still("THINGS", x.count(0), 4);
        Boundary.still("KINDS", x.count(1), 1);
        RuleCourt y = Boundary.told(fresh(), "p:q, a#b, not#b.", 1);
        Boundary.beyond("no # behind it", y.term(0, 0, 0), 0);
        Boundary.beyond("no # behind it", y.count(1), 2);
        Boundary.still("not with # behind it", y.term(0, 2, 0), 2);
        RuleCourt z = Boundary.told(fresh(), "p:not q.", 1);
        Boundary.beyond("not without #", z.term(0, 0, 0), 1);
        // Behind not, and at the first ATOM, it begins no TERM.
        Boundary.refused(z, "p:not a # b.", 1, 8);
        Boundary.refused(z, "a # b.", 1, 2);
    }
}
