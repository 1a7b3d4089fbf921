import java.util.Arrays;
import java.util.NoSuchElementException;

/** A court of rules: facts and rules with refusals told in texts, and what follows from them. */
public final class RuleCourt {

    public static final int NONE = -1;

    /** The answer "not so" of the calls that keep NONE for a refusal. */
    private static final int NOT_SO = -2;

    // BOUNDS
    private static final int NAMES = 10;
    private static final int LETTERS = 8;
    private static final int RULES = 20;
    private static final int TERMS = 4;
    private static final int SIGNS = 3;
    private static final int ATOMS = 1000;
    private static final int TAPE = 400;
    private static final int FED = 20;
    private static final int MOST_GONE = 3;
    private static final int MOST_FACTS = 12;

    // An ATOM's number is 10 times its row and its second THING; a KIND has ten rows.
    private static final int ROW = 10;
    private static final int ROWS = 100;

    // What a TERM is, as term() tells it
    private static final int IS = 0;
    private static final int REFUSED = 1;
    private static final int UNLIKE = 2;

    /** An ARG of this number or above is a SIGN: its place among the RULE's SIGNS and this. */
    private static final int FIRST_SIGN = 100;

    // FAULTS
    private static final int FORM = 1;
    private static final int OTHER_PLACES = 2;
    private static final int SIGN_IN_FACT = 3;
    private static final int MANY = 4;
    private static final int LOOSE_SIGN = 5;
    private static final int OWN_REFUSAL = 6;

    // TROUBLE
    private static final int NO_SUCH = 1;
    private static final int BAD_NUMBER = 2;
    private static final int FAULTY = 4;
    private static final int NOT_FOLLOWING = 5;
    private static final int TOO_MANY = 6;

    /** For a settling that is to look at the RULES of every KIND. */
    private static final int ALL_KINDS = (1 << NAMES) - 1;

    private final int[] tape = new int[TAPE];
    private int tapeSize;
    private final Book book = new Book();
    private final Reader reader = new Reader(book);
    private final Join join = new Join(book);
    private final Judge judge = new Judge(book, join);
    private final Model now = new Model(true);
    private boolean nowIsSettled;
    private final Model supposed = new Model(false);
    private final Cutter cutter = new Cutter(book, judge, supposed);
    private final int[] reasons = new int[TERMS];
    private int reasonCount;
    private int trouble;

    public RuleCourt() {
    }

    public int feed(int a, int b, int c, int d, int e) {
        if (tapeSize > TAPE - FED) {
            return NONE;
        }
        putBytes(a);
        putBytes(b);
        putBytes(c);
        putBytes(d);
        putBytes(e);
        return tapeSize;
    }

    private void putBytes(int number) {
        for (int shift = 24; shift >= 0 && tapeSize < TAPE; shift -= 8) {
            tape[tapeSize] = (number >>> shift) & 255;
            tapeSize++;
        }
    }

    public int tell(int n) {
        if (n < 0 || n > tapeSize) {
            return refuse(BAD_NUMBER);
        }
        tapeSize = 0;
        if (!reader.read(tape, n)) {
            return refuse(FAULTY);
        }
        nowIsSettled = false;
        trouble = 0;
        return reader.clauses;
    }

    public int fault() {
        return reader.faultNumber;
    }

    public int where() {
        return trouble == FAULTY ? reader.faultPlace : NONE;
    }

    public int atom(int kind, int first, int second) {
        if (!book.kinds.has(kind)) {
            return NONE;
        }
        int most = book.things.size - 1;
        int mostFirst = book.placesOf[kind] > 0 ? most : 0;
        int mostSecond = book.placesOf[kind] > 1 ? most : 0;
        if (first < 0 || first > mostFirst || second < 0 || second > mostSecond) {
            return NONE;
        }
        return (kind * ROW + first) * ROW + second;
    }

    public int name(int k, int i, boolean kind) throws NoSuchElementException {
        int letter = kind ? book.kinds.letter(k, i) : book.things.letter(k, i);
        if (letter == NONE) {
            throw new NoSuchElementException("no such letter");
        }
        return letter;
    }

    public int places(int kind) {
        return book.kinds.has(kind) ? book.placesOf[kind] : NONE;
    }

    public int layer(int kind) {
        return book.kinds.has(kind) ? book.layers.of[kind] : NONE;
    }

    public int fact(int atom, boolean is) {
        if (!book.hasAtom(atom)) {
            return refuse(NO_SUCH);
        }
        trouble = 0;
        if (!book.setFact(atom, is)) {
            return 0;
        }
        nowIsSettled = false;
        return 1;
    }

    public boolean drop(int rule) {
        if (!book.hasRule(rule)) {
            trouble = NO_SUCH;
            return false;
        }
        book.removeRule(rule);
        nowIsSettled = false;
        trouble = 0;
        return true;
    }

    // ---- what follows

    public int follows(int atom) {
        if (!book.hasAtom(atom)) {
            return NONE;
        }
        if (book.isFact(atom)) {
            return 2;
        }
        return settled().has(atom) ? 1 : 0;
    }

    public int many(int kind) {
        if (!book.kinds.has(kind)) {
            return NONE;
        }
        Model model = settled();
        int count = 0;
        for (int row = kind * ROW; row < kind * ROW + ROW; row++) {
            count += Integer.bitCount(model.rows[row]);
        }
        return count;
    }

    public int one(int kind, int i) {
        if (!book.kinds.has(kind) || i < 0) {
            return NONE;
        }
        Model model = settled();
        int left = i;
        int first = kind * ROW * ROW;
        for (int atom = first; atom < first + ROW * ROW; atom++) {
            if (model.has(atom)) {
                if (left == 0) {
                    return atom;
                }
                left--;
            }
        }
        return NONE;
    }

    public int steps(int atom) {
        if (!book.hasAtom(atom)) {
            return NONE;
        }
        Model model = settled();
        return model.has(atom) ? model.stepsOf[atom] : NOT_SO;
    }

    public int why(int atom) {
        if (!book.hasAtom(atom)) {
            return refuse(NO_SUCH);
        }
        Model model = settled();
        if (!model.has(atom)) {
            return refuse(NOT_FOLLOWING);
        }
        trouble = 0;
        if (book.isFact(atom)) {
            return NOT_SO;
        }
        for (int r = 0; r < book.ruleCount; r++) {
            if (join.seekLeast(model, book.rules[r], atom)) {
                keepReasons(book.rules[r]);
                return r;
            }
        }
        return NONE;
    }

    /** The reasons are kept as numbers: the RULE may be dropped before they are asked for. */
    private void keepReasons(Rule rule) {
        reasonCount = rule.size;
        for (int i = 0; i < rule.size; i++) {
            Term term = rule.terms[i];
            reasons[i] = term.type == UNLIKE ? NOT_SO : join.leastNumberOf(term);
        }
    }

    public int because(int i) {
        return i >= 0 && i < reasonCount ? reasons[i] : NONE;
    }

    public int comes(int rule, int atom) {
        if (!book.hasRule(rule) || !book.hasAtom(atom)) {
            return refuse(NO_SUCH);
        }
        if (book.rules[rule].head.kind != atom / (ROW * ROW)) {
            return refuse(NO_SUCH);
        }
        trouble = 0;
        return join.reachFor(settled(), book.rules[rule], atom);
    }

    // ---- rules

    public int rule(int k, int what) {
        if (!book.hasRule(k)) {
            return NONE;
        }
        Rule asked = book.rules[k];
        switch (what) {
            case 0:
                return asked.head.kind;
            case 1:
                return asked.size;
            case 2:
                return asked.signs;
            case 3:
                return join.reach(settled(), asked) < asked.size ? 1 : 0;
            case 4:
                return isSpare(k, settled()) ? 1 : 0;
            default:
                return NONE;
        }
    }

    private boolean isSpare(int k, Model model) {
        supposed.start(book.factRows);
        judge.settle(supposed, k, ALL_KINDS, NONE);
        return supposed.countBeyond(model) == 0 && model.countBeyond(supposed) == 0;
    }

    public int term(int rule, int i, int what) {
        if (!book.hasRule(rule) || i < 0 || i >= book.rules[rule].size) {
            return NONE;
        }
        Term asked = book.rules[rule].terms[i];
        switch (what) {
            case 0:
                return asked.type;
            case 1:
                return asked.kind;
            case 2:
                return asked.first;
            case 3:
                return asked.second;
            default:
                return NONE;
        }
    }

    public int go(int atom) {
        if (!book.hasAtom(atom)) {
            return refuse(NO_SUCH);
        }
        if (!settled().has(atom)) {
            return refuse(NOT_FOLLOWING);
        }
        if (book.factCount > MOST_FACTS) {
            return refuse(TOO_MANY);
        }
        trouble = 0;
        cutter.aimAt(atom);
        for (int size = 1; size <= MOST_GONE; size++) {
            if (cutter.seek(size)) {
                return size;
            }
        }
        return NOT_SO;
    }

    public int gone(int i) {
        return i >= 0 && i < cutter.cutCount ? cutter.cut[i] : NONE;
    }

    public int derived() {
        Model model = settled();
        int count = 0;
        for (int row = 0; row < ROWS; row++) {
            count += Integer.bitCount(model.rows[row] & ~book.factRows[row]);
        }
        return count;
    }

    public int deepest() {
        Model model = settled();
        int most = 0;
        for (int atom = 0; atom < book.kinds.size * ROW * ROW; atom++) {
            if (model.has(atom)) {
                most = Math.max(most, model.stepsOf[atom]);
            }
        }
        return most;
    }

    public int turned(int atom, boolean lost) {
        if (!book.hasAtom(atom)) {
            return refuse(NO_SUCH);
        }
        trouble = 0;
        Model model = settled();
        supposed.start(book.factRows);
        supposed.turn(atom);
        judge.settle(supposed, NONE, ALL_KINDS, NONE);
        return lost ? model.countBeyond(supposed) : supposed.countBeyond(model);
    }

    public int count(int what) {
        switch (what) {
            case 0:
                return book.things.size;
            case 1:
                return book.kinds.size;
            case 2:
                return book.ruleCount;
            case 3:
                return book.factCount;
            case 4:
                return tapeSize;
            case 5:
                return book.layerCount();
            default:
                return NONE;
        }
    }

    public int trouble() {
        return trouble;
    }

    private int refuse(int number) {
        trouble = number;
        return NONE;
    }

    private Model settled() {
        if (!nowIsSettled) {
            now.start(book.factRows);
            judge.settle(now, NONE, ALL_KINDS, NONE);
            nowIsSettled = true;
        }
        return now;
    }

    /** WORDS in the order of their naming, each packed into a long with its first letter lowest. */
    private static final class Names {
        private final long[] words = new long[NAMES];
        private int size;

        boolean has(int k) {
            return k >= 0 && k < size;
        }

        int findOrAdd(long word) {
            for (int k = 0; k < size; k++) {
                if (words[k] == word) {
                    return k;
                }
            }
            if (size >= NAMES) {
                return NONE;
            }
            words[size] = word;
            size++;
            return size - 1;
        }

        int letter(int k, int i) {
            if (!has(k) || i < 0 || i >= LETTERS) {
                return NONE;
            }
            int letter = (int) (words[k] >>> (8 * i)) & 255;
            return letter == 0 ? NONE : letter;
        }
    }

    /** A TERM or a RULE's first ATOM. The places in the text serve the FAULTS only. */
    private static final class Term {
        private int type;
        private int kind;
        private int first;
        private int second;
        private int kindPlace;
        private int firstPlace;
        private int secondPlace;

        void clear(int newType) {
            type = newType;
            kind = NONE;
            first = NONE;
            second = NONE;
        }

        void setArg(boolean isFirst, int arg, int place) {
            if (isFirst) {
                first = arg;
                firstPlace = place;
            } else {
                second = arg;
                secondPlace = place;
            }
        }
    }

    private static final class Rule {
        private final Term head = new Term();
        private final Term[] terms = new Term[TERMS];
        private int size;
        private final int[] letters = new int[SIGNS];
        private int signs;

        Rule() {
            for (int i = 0; i < TERMS; i++) {
                terms[i] = new Term();
            }
        }

        void clear() {
            size = 0;
            signs = 0;
        }

        int findOrAddSign(int letter) {
            for (int s = 0; s < signs; s++) {
                if (letters[s] == letter) {
                    return FIRST_SIGN + s;
                }
            }
            if (signs >= SIGNS) {
                return NONE;
            }
            letters[signs] = letter;
            signs++;
            return FIRST_SIGN + signs - 1;
        }

        /** The first place of a SIGN in this TERM that no ATOM TERM gives a THING; NONE without. */
        int loosePlace(Term term) {
            if (isLoose(term.first)) {
                return term.firstPlace;
            }
            return isLoose(term.second) ? term.secondPlace : NONE;
        }

        private boolean isLoose(int arg) {
            if (arg < FIRST_SIGN) {
                return false;
            }
            for (int i = 0; i < size; i++) {
                Term term = terms[i];
                if (term.type == IS && (term.first == arg || term.second == arg)) {
                    return false;
                }
            }
            return true;
        }
    }

    private static final class Layers {
        private final int[] of = new int[NAMES];

        /** False if by the first of the RULES, so many, some KIND leans on its own refusal. */
        boolean settle(Rule[] rules, int count) {
            Arrays.fill(of, 0);
            // Each round but the last lifts a KIND, and none is lifted above NAMES.
            for (int round = 0; round <= NAMES * (NAMES + 1); round++) {
                boolean lifted = false;
                for (int r = 0; r < count && r < rules.length; r++) {
                    int least = leastFor(rules[r]);
                    // Without such a KIND, no layer can be as high as there may be KINDS.
                    if (least >= NAMES) {
                        return false;
                    }
                    if (least > of[rules[r].head.kind]) {
                        of[rules[r].head.kind] = least;
                        lifted = true;
                    }
                }
                if (!lifted) {
                    return true;
                }
            }
            return false;
        }

        private int leastFor(Rule rule) {
            int least = 0;
            for (int i = 0; i < rule.size; i++) {
                Term term = rule.terms[i];
                if (term.type != UNLIKE) {
                    int above = term.type == REFUSED ? 1 : 0;
                    least = Math.max(least, of[term.kind] + above);
                }
            }
            return least;
        }
    }

    /** All that has been told. */
    private static final class Book {
        private final Names kinds = new Names();
        private final Names things = new Names();
        private final int[] placesOf = new int[NAMES];
        private final Layers layers = new Layers();
        // One more than there may be: the RULE behind the last is where a CLAUSE is read into.
        private final Rule[] rules = new Rule[RULES + 1];
        private int ruleCount;
        // A bit for each ATOM, by its second THING in the row of its KIND and its first
        private final int[] factRows = new int[ROWS];
        private int factCount;

        Book() {
            for (int r = 0; r <= RULES; r++) {
                rules[r] = new Rule();
            }
        }

        boolean hasRule(int k) {
            return k >= 0 && k < ruleCount;
        }

        boolean hasAtom(int atom) {
            if (atom < 0 || !kinds.has(atom / (ROW * ROW))) {
                return false;
            }
            int places = placesOf[atom / (ROW * ROW)];
            int first = atom / ROW % ROW;
            int second = atom % ROW;
            return (places > 0 ? first < things.size : first == 0)
                && (places > 1 ? second < things.size : second == 0);
        }

        boolean isFact(int atom) {
            return (factRows[atom / ROW] >> (atom % ROW) & 1) != 0;
        }

        /** False if that was so already. */
        boolean setFact(int atom, boolean is) {
            if (isFact(atom) == is) {
                return false;
            }
            factRows[atom / ROW] ^= 1 << (atom % ROW);
            factCount += is ? 1 : -1;
            return true;
        }

        void removeRule(int k) {
            Rule removed = rules[k];
            for (int r = k; r < ruleCount - 1; r++) {
                rules[r] = rules[r + 1];
            }
            ruleCount--;
            rules[ruleCount] = removed;
            layers.settle(rules, ruleCount);
        }

        int layerCount() {
            int count = 0;
            for (int k = 0; k < kinds.size; k++) {
                count = Math.max(count, layers.of[k] + 1);
            }
            return count;
        }

        /** The KINDS, a bit each, that a KIND leans on, and itself. */
        int kindsBehind(int kind) {
            int behind = 1 << kind;
            for (int round = 0; round < NAMES; round++) {
                for (int r = 0; r < ruleCount; r++) {
                    if ((behind >> rules[r].head.kind & 1) != 0) {
                        behind |= kindsIn(rules[r]);
                    }
                }
            }
            return behind;
        }

        private static int kindsIn(Rule rule) {
            int in = 0;
            for (int i = 0; i < rule.size; i++) {
                if (rule.terms[i].type != UNLIKE) {
                    in |= 1 << rule.terms[i].kind;
                }
            }
            return in;
        }
    }

    /** The TOKENS of a text; the last one is its end or the first byte that begins none. */
    private static final class Tokens {
        private static final int END = 0;
        private static final int BROKEN = 1;
        private static final int WORD = 2;
        private static final int SIGN = 3;
        // Every other TOKEN's type is its byte.

        private final int[] types = new int[TAPE + 1];
        private final int[] starts = new int[TAPE + 1];
        private final long[] words = new long[TAPE + 1];
        private int size;

        void read(int[] bytes, int n) {
            size = 0;
            int letters = 0;
            for (int i = 0; i < n && i < TAPE; i++) {
                int b = bytes[i];
                if (b >= 'a' && b <= 'z') {
                    if (letters == 0) {
                        put(WORD, i, 0);
                    }
                    if (letters >= LETTERS) {
                        types[size - 1] = BROKEN;
                        return;
                    }
                    words[size - 1] |= (long) b << (8 * letters);
                    letters++;
                } else {
                    letters = 0;
                    if (b != ' ' && b != '\n') {
                        put(typeOf(b), i, b);
                        if (types[size - 1] == BROKEN) {
                            return;
                        }
                    }
                }
            }
            put(END, n, 0);
        }

        private void put(int type, int start, long word) {
            if (size <= TAPE) {
                types[size] = type;
                starts[size] = start;
                words[size] = word;
                size++;
            }
        }

        private static int typeOf(int b) {
            if (b >= 'A' && b <= 'H') {
                return SIGN;
            }
            boolean single = b == '(' || b == ')' || b == ',' || b == '.' || b == ':' || b == '#';
            return single ? b : BROKEN;
        }
    }

    /**
     * Reads a text into the book, or leaves the book as it was and keeps the FAULT. Its reading
     * methods answer false once there is a FAULT.
     */
    private static final class Reader {
        private static final long NOT = 'n' | 'o' << 8 | 't' << 16;
        // The shortest CLAUSE has two bytes.
        private static final int CLAUSES = TAPE / 2;

        private final Book book;
        private final Tokens tokens = new Tokens();
        private int at;
        private final int[] facts = new int[CLAUSES];
        private int factCount;
        private int clauses;
        private int faultNumber;
        private int faultPlace;

        Reader(Book book) {
            this.book = book;
        }

        boolean read(int[] bytes, int n) {
            int kinds = book.kinds.size;
            int things = book.things.size;
            int rules = book.ruleCount;
            tokens.read(bytes, n);
            at = 0;
            factCount = 0;
            clauses = 0;
            faultNumber = 0;
            faultPlace = NONE;
            boolean sound = true;
            while (sound && clauses < CLAUSES && (clauses == 0 || type() != Tokens.END)) {
                sound = readClause(book.rules[book.ruleCount]);
                clauses++;
            }
            if (sound && refusesNoneOfItself(rules)) {
                for (int i = 0; i < factCount; i++) {
                    book.setFact(facts[i], true);
                }
                return true;
            }
            book.kinds.size = kinds;
            book.things.size = things;
            book.ruleCount = rules;
            book.layers.settle(book.rules, rules);
            return false;
        }

        private boolean refusesNoneOfItself(int rulesAhead) {
            if (book.layers.settle(book.rules, book.ruleCount)) {
                return true;
            }
            for (int r = rulesAhead; r < book.ruleCount; r++) {
                if (!book.layers.settle(book.rules, r + 1)) {
                    return fail(OWN_REFUSAL, book.rules[r].head.kindPlace);
                }
            }
            return true;
        }

        private boolean readClause(Rule draft) {
            draft.clear();
            draft.head.clear(IS);
            if (!readAtom(draft, draft.head)) {
                return false;
            }
            if (type() == '.') {
                return endFact(draft.head);
            }
            if (type() != ':') {
                return fail(FORM, start());
            }
            if (book.ruleCount >= RULES) {
                return fail(MANY, start());
            }
            for (int i = 0; i < TERMS; i++) {
                at++;
                draft.size = i + 1;
                if (!readTerm(draft, draft.terms[i])) {
                    return false;
                }
                if (type() == '.') {
                    return endRule(draft);
                }
                if (type() != ',') {
                    return fail(FORM, start());
                }
            }
            at++;
            boolean mayStand = type() == Tokens.WORD || type() == Tokens.SIGN;
            return fail(mayStand ? MANY : FORM, start());
        }

        private boolean endFact(Term head) {
            if (head.first >= FIRST_SIGN) {
                return fail(SIGN_IN_FACT, head.firstPlace);
            }
            if (head.second >= FIRST_SIGN) {
                return fail(SIGN_IN_FACT, head.secondPlace);
            }
            if (factCount < CLAUSES) {
                int first = Math.max(head.first, 0);
                int second = Math.max(head.second, 0);
                facts[factCount] = (head.kind * ROW + first) * ROW + second;
                factCount++;
            }
            at++;
            return true;
        }

        private boolean endRule(Rule draft) {
            int loose = draft.loosePlace(draft.head);
            for (int i = 0; i < draft.size && loose == NONE; i++) {
                loose = draft.loosePlace(draft.terms[i]);
            }
            if (loose != NONE) {
                return fail(LOOSE_SIGN, loose);
            }
            book.ruleCount++;
            at++;
            return true;
        }

        private boolean readTerm(Rule draft, Term term) {
            if (type() == Tokens.SIGN || type() == Tokens.WORD && nextType() == '#') {
                return readUnlike(draft, term);
            }
            if (type() == Tokens.WORD && tokens.words[at] == NOT) {
                term.clear(REFUSED);
                at++;
            } else {
                term.clear(IS);
            }
            return readAtom(draft, term);
        }

        private boolean readUnlike(Rule draft, Term term) {
            term.clear(UNLIKE);
            if (!readArg(draft, term, true)) {
                return false;
            }
            if (type() != '#') {
                return fail(FORM, start());
            }
            at++;
            return readArg(draft, term, false);
        }

        private boolean readAtom(Rule draft, Term term) {
            if (type() != Tokens.WORD || tokens.words[at] == NOT) {
                return fail(FORM, start());
            }
            int known = book.kinds.size;
            term.kind = book.kinds.findOrAdd(tokens.words[at]);
            term.kindPlace = start();
            if (term.kind == NONE) {
                return fail(MANY, start());
            }
            at++;
            if (type() == '(') {
                at++;
                if (!readArg(draft, term, true)) {
                    return false;
                }
                if (type() == ',') {
                    at++;
                    if (!readArg(draft, term, false)) {
                        return false;
                    }
                }
                if (type() != ')') {
                    return fail(FORM, start());
                }
                at++;
            }
            return hasItsPlaces(term, term.kind == known);
        }

        private boolean hasItsPlaces(Term term, boolean isNew) {
            int places = term.first == NONE ? 0 : term.second == NONE ? 1 : 2;
            if (isNew) {
                book.placesOf[term.kind] = places;
            }
            if (book.placesOf[term.kind] != places) {
                return fail(OTHER_PLACES, term.kindPlace);
            }
            return true;
        }

        private boolean readArg(Rule draft, Term term, boolean isFirst) {
            int arg;
            if (type() == Tokens.WORD) {
                arg = book.things.findOrAdd(tokens.words[at]);
            } else if (type() == Tokens.SIGN) {
                arg = draft.findOrAddSign((int) tokens.words[at]);
            } else {
                return fail(FORM, start());
            }
            if (arg == NONE) {
                return fail(MANY, start());
            }
            term.setArg(isFirst, arg, start());
            at++;
            return true;
        }

        private int type() {
            return at < tokens.size ? tokens.types[at] : Tokens.END;
        }

        private int nextType() {
            return at + 1 < tokens.size ? tokens.types[at + 1] : Tokens.END;
        }

        private int start() {
            return at < tokens.size ? tokens.starts[at] : NONE;
        }

        private boolean fail(int number, int place) {
            faultNumber = number;
            faultPlace = place;
            return false;
        }
    }

    /** What FOLLOWS, a bit for each ATOM as in the book's rows of FACTS. */
    private static final class Model {
        private static final int FAR = Integer.MAX_VALUE;

        private final boolean countsSteps;
        private final int[] rows = new int[ROWS];
        private final int[] stepsOf = new int[ATOMS];
        // When an ATOM of a KIND was last changed, so that RULES run again only where it matters
        private final int[] changedAt = new int[NAMES];
        private int clock;

        Model(boolean countsSteps) {
            this.countsSteps = countsSteps;
        }

        void start(int[] factRows) {
            System.arraycopy(factRows, 0, rows, 0, ROWS);
            Arrays.fill(changedAt, 0);
            clock = 0;
            if (countsSteps) {
                Arrays.fill(stepsOf, FAR);
                for (int row = 0; row < ROWS; row++) {
                    setNoSteps(row);
                }
            }
        }

        private void setNoSteps(int row) {
            for (int second = 0; second < ROW && rows[row] >> second != 0; second++) {
                if ((rows[row] >> second & 1) != 0) {
                    stepsOf[row * ROW + second] = 0;
                }
            }
        }

        boolean has(int atom) {
            return (rows[atom / ROW] >> (atom % ROW) & 1) != 0;
        }

        void turn(int atom) {
            rows[atom / ROW] ^= 1 << (atom % ROW);
        }

        /** Takes an ATOM in, or its fewer STEPS. */
        void take(int atom, int steps) {
            if (atom < 0 || atom >= ATOMS) {
                return;
            }
            boolean known = has(atom);
            if (known && (!countsSteps || stepsOf[atom] <= steps)) {
                return;
            }
            if (countsSteps) {
                stepsOf[atom] = steps;
            }
            if (!known) {
                turn(atom);
            }
            clock++;
            changedAt[atom / (ROW * ROW)] = clock;
        }

        int countBeyond(Model other) {
            int count = 0;
            for (int row = 0; row < ROWS; row++) {
                count += Integer.bitCount(rows[row] & ~other.rows[row]);
            }
            return count;
        }
    }

    /** Walks through the THINGS for a RULE's SIGNS with which its TERMS hold, from the first on. */
    private static final class Join {
        private static final int FIRE = 0;
        private static final int REACH = 1;
        private static final int LEAST = 2;

        private final Book book;
        private Model model;
        private Rule rule;
        private int aim;
        private final int[] bound = new int[SIGNS];
        private int reached;
        private boolean ended;
        // Of the least THINGS: the STEPS that the TERMS must come to, and what was found
        private int wantedSteps;
        private final int[] least = new int[SIGNS];

        Join(Book book) {
            this.book = book;
        }

        /** How many TERMS, from the first on, can hold together. */
        int reach(Model in, Rule asked) {
            begin(in, asked, REACH);
            walk(0, 0);
            return reached;
        }

        /** The same for an ATOM that the RULE's first is to be; NOT_SO if it can't. */
        int reachFor(Model in, Rule asked, int atom) {
            begin(in, asked, REACH);
            if (!bindHead(atom)) {
                return NOT_SO;
            }
            walk(0, 0);
            return reached;
        }

        /** Whether the RULE leads to an ATOM in its STEPS; the least THINGS for it are kept. */
        boolean seekLeast(Model in, Rule asked, int atom) {
            if (asked.head.kind != atom / (ROW * ROW)) {
                return false;
            }
            begin(in, asked, LEAST);
            wantedSteps = in.stepsOf[atom] - 1;
            if (bindHead(atom)) {
                walk(0, 0);
            }
            return ended;
        }

        int leastNumberOf(Term term) {
            return numberOf(term, least);
        }

        void begin(Model in, Rule asked, int newAim) {
            model = in;
            rule = asked;
            aim = newAim;
            reached = 0;
            ended = false;
            Arrays.fill(bound, NONE);
        }

        private boolean bindHead(int atom) {
            return bind(rule.head.first, atom / ROW % ROW) && bind(rule.head.second, atom % ROW);
        }

        private boolean bind(int arg, int thing) {
            if (arg < FIRST_SIGN) {
                return arg == NONE || arg == thing;
            }
            int sign = arg - FIRST_SIGN;
            if (bound[sign] != NONE) {
                return bound[sign] == thing;
            }
            bound[sign] = thing;
            return true;
        }

        /** Goes on with TERM i; high is the most STEPS of the ATOM TERMS ahead of it. */
        private void walk(int i, int high) {
            reached = Math.max(reached, i);
            if (i >= rule.size || i >= TERMS) {
                arrive(high);
                return;
            }
            Term term = rule.terms[i];
            int free = freeSign(term.first);
            int from = free == NONE ? thingOf(term.first, bound) : 0;
            int to = free == NONE ? from : book.things.size - 1;
            for (int first = from; first <= to && !ended; first++) {
                int fitting = secondsFor(term, first);
                if (fitting != 0) {
                    if (free != NONE) {
                        bound[free] = first;
                    }
                    walkSecond(i, first, fitting, high);
                }
            }
            if (free != NONE) {
                bound[free] = NONE;
            }
        }

        private void walkSecond(int i, int first, int fitting, int high) {
            Term term = rule.terms[i];
            int free = freeSign(term.second);
            int from = free == NONE ? thingOf(term.second, bound) : 0;
            int to = free == NONE ? from : book.things.size - 1;
            boolean isAtom = term.type == IS;
            int row = term.kind * ROW + first;
            for (int second = from; second <= to && !ended; second++) {
                // A row is read anew: what the RULE has just led to may lead on at once.
                int seconds = isAtom ? model.rows[row] : fitting;
                if ((seconds >> second & 1) != 0) {
                    if (free != NONE) {
                        bound[free] = second;
                    }
                    int steps = isAtom ? model.stepsOf[row * ROW + second] : 0;
                    walk(i + 1, Math.max(high, steps));
                }
            }
            if (free != NONE) {
                bound[free] = NONE;
            }
        }

        /** The second THINGS, a bit each, with which a TERM holds. */
        private int secondsFor(Term term, int first) {
            if (term.type == UNLIKE) {
                return ~(1 << first);
            }
            int row = model.rows[term.kind * ROW + first];
            return term.type == IS ? row : ~row;
        }

        private void arrive(int high) {
            if (aim == FIRE) {
                model.take(numberOf(rule.head, bound), high + 1);
            } else if (aim == REACH) {
                ended = true;
            } else if (high == wantedSteps) {
                // The first are the least: SIGNS get their THINGS in the order in which they stand.
                ended = true;
                System.arraycopy(bound, 0, least, 0, SIGNS);
            }
        }

        private int freeSign(int arg) {
            boolean free = arg >= FIRST_SIGN && bound[arg - FIRST_SIGN] == NONE;
            return free ? arg - FIRST_SIGN : NONE;
        }

        /** 0 for a PLACE that isn't, as in the numbers of ATOMS. */
        private static int thingOf(int arg, int[] things) {
            return arg < FIRST_SIGN ? Math.max(arg, 0) : things[arg - FIRST_SIGN];
        }

        private static int numberOf(Term term, int[] things) {
            return (term.kind * ROW + thingOf(term.first, things)) * ROW
                + thingOf(term.second, things);
        }
    }

    /** Lets a model that holds FACTS grow to all that FOLLOWS. */
    private static final class Judge {
        // In each round every ATOM a step further off gets its STEPS; one more finds nothing new.
        private static final int ROUNDS = ATOMS + 2;

        private final Book book;
        private final Join join;
        private final int[] ranAt = new int[RULES];

        Judge(Book book, Join join) {
            this.book = book;
            this.join = join;
        }

        /**
         * Goes without one RULE (or NONE), by the RULES of some KINDS (a bit each), and ends early
         * once the model has the goal (or NONE).
         */
        void settle(Model model, int without, int kinds, int goal) {
            Arrays.fill(ranAt, NONE);
            int layers = book.layerCount();
            for (int layer = 0; layer < layers; layer++) {
                boolean ran = true;
                for (int round = 0; round < ROUNDS && ran; round++) {
                    ran = false;
                    for (int r = 0; r < book.ruleCount; r++) {
                        if (goal != NONE && model.has(goal)) {
                            return;
                        }
                        int kind = book.rules[r].head.kind;
                        boolean counts = r != without && (kinds >> kind & 1) != 0;
                        if (counts && book.layers.of[kind] == layer && isDue(r, model)) {
                            ranAt[r] = model.clock;
                            join.begin(model, book.rules[r], Join.FIRE);
                            join.walk(0, 0);
                            ran = true;
                        }
                    }
                }
            }
        }

        private boolean isDue(int r, Model model) {
            if (ranAt[r] == NONE) {
                return true;
            }
            Rule rule = book.rules[r];
            for (int i = 0; i < rule.size; i++) {
                Term term = rule.terms[i];
                if (term.type == IS && model.changedAt[term.kind] > ranAt[r]) {
                    return true;
                }
            }
            return false;
        }
    }

    /** Seeks the fewest FACTS that must go. */
    private static final class Cutter {
        // 3 of 12
        private static final int MOST_TRIES = 220;

        private final Book book;
        private final Judge judge;
        private final Model model;
        private int goal;
        private int kinds;
        // Only FACTS of KINDS that the goal leans on: none of the fewest can be another.
        private final int[] candidates = new int[MOST_FACTS];
        private int candidateCount;
        private final int[] picks = new int[MOST_GONE];
        private final int[] cut = new int[MOST_GONE];
        private int cutCount;

        Cutter(Book book, Judge judge, Model model) {
            this.book = book;
            this.judge = judge;
            this.model = model;
        }

        void aimAt(int atom) {
            goal = atom;
            kinds = book.kindsBehind(atom / (ROW * ROW));
            candidateCount = 0;
            for (int a = 0; a < ATOMS && candidateCount < MOST_FACTS; a++) {
                if (book.isFact(a) && (kinds >> (a / (ROW * ROW)) & 1) != 0) {
                    candidates[candidateCount] = a;
                    candidateCount++;
                }
            }
        }

        /** Whether the goal can be cut off by so many FACTS; the first such are kept. */
        boolean seek(int size) {
            if (size > candidateCount || size > MOST_GONE) {
                return false;
            }
            for (int p = 0; p < size; p++) {
                picks[p] = p;
            }
            boolean more = true;
            for (int tries = 0; tries < MOST_TRIES && more; tries++) {
                model.start(book.factRows);
                for (int p = 0; p < size; p++) {
                    model.turn(candidates[picks[p]]);
                }
                judge.settle(model, NONE, kinds, goal);
                if (!model.has(goal)) {
                    keepPicks(size);
                    return true;
                }
                more = nextPicks(size);
            }
            return false;
        }

        private void keepPicks(int size) {
            for (int p = 0; p < size; p++) {
                cut[p] = candidates[picks[p]];
            }
            cutCount = size;
        }

        /** The next row of picks in their order; false behind the last. */
        private boolean nextPicks(int size) {
            for (int p = size - 1; p >= 0; p--) {
                if (picks[p] < candidateCount - size + p) {
                    picks[p]++;
                    for (int q = p + 1; q < size; q++) {
                        picks[q] = picks[q - 1] + 1;
                    }
                    return true;
                }
            }
            return false;
        }
    }
}
