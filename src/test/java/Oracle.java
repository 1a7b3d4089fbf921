import java.util.ArrayList;
import java.util.Arrays;
import java.util.List;
import java.util.NoSuchElementException;
import java.util.TreeMap;
import java.util.TreeSet;
import java.util.regex.Matcher;
import java.util.regex.Pattern;

/**
 * The document's words again, written another way and without a thought of speed: FORM by a regular
 * expression over TOKENS, FAULTS as events with the TOKEN at which they are met, what FOLLOWS by
 * trying every row of THINGS again and again.
 */
final class Oracle {
    static final int NONE = -1;

    private static final Pattern TEXT;

    static {
        String arg = "[wnS]";
        String atom = "w(?:\\(" + arg + "(?:," + arg + ")?\\))?";
        String term = "(?:" + atom + "|n" + atom + "|" + arg + "#" + arg + ")";
        TEXT = Pattern.compile("(?:" + atom + "(?::" + term + "(?:," + term + ")*)?\\.)+");
    }

    record Token(char type, String text, int place) { }

    /** Arguments are THINGS, or 100 and a SIGN's place. */
    static final class Part {
        int type;
        int kind = NONE;
        List<Integer> args = new ArrayList<>();
        List<Integer> places = new ArrayList<>();
        int place;
    }

    static final class Law {
        Part head;
        List<Part> parts = new ArrayList<>();
        List<String> signs = new ArrayList<>();
    }

    record Fault(double met, int number, int place) { }

    private List<Integer> tape = new ArrayList<>();
    private List<String> kinds = new ArrayList<>();
    private List<Integer> placesOf = new ArrayList<>();
    private List<String> things = new ArrayList<>();
    private List<Law> laws = new ArrayList<>();
    private TreeSet<Integer> facts = new TreeSet<>();
    private int trouble;
    private int fault;
    private int place;
    private List<Integer> reasons = new ArrayList<>();
    private List<Integer> cut = new ArrayList<>();
    private TreeMap<Integer, Integer> known;

    int feed(int a, int b, int c, int d, int e) {
        if (tape.size() + 20 > 400) {
            return NONE;
        }
        for (int number : new int[] {a, b, c, d, e}) {
            for (int i = 3; i >= 0; i--) {
                tape.add(number >> (8 * i) & 255);
            }
        }
        return tape.size();
    }

    // ---- texts

    private static List<Token> tokens(List<Integer> bytes) {
        List<Token> all = new ArrayList<>();
        int i = 0;
        while (i < bytes.size()) {
            char c = (char) (int) bytes.get(i);
            if (c == 32 || c == 10) {
                i++;
                continue;
            }
            StringBuilder word = new StringBuilder();
            while (i + word.length() < bytes.size()) {
                char letter = (char) (int) bytes.get(i + word.length());
                if (letter < 'a' || letter > 'z') {
                    break;
                }
                word.append(letter);
            }
            if (word.length() > 8) {
                all.add(new Token('!', "", i));
                return all;
            }
            if (word.length() > 0) {
                String text = word.toString();
                all.add(new Token(text.equals("not") ? 'n' : 'w', text, i));
                i += text.length();
                continue;
            }
            if ("ABCDEFGH".indexOf(c) >= 0) {
                all.add(new Token('S', "" + c, i));
            } else if ("(),.:#".indexOf(c) >= 0) {
                all.add(new Token(c, "" + c, i));
            } else {
                all.add(new Token('!', "", i));
                return all;
            }
            i++;
        }
        all.add(new Token('$', "", bytes.size()));
        return all;
    }

    /** The first TOKEN with which no TEXT goes on; as many as there are if it is one. */
    private static int formFault(List<Token> tokens) {
        StringBuilder types = new StringBuilder();
        for (int i = 0; i < tokens.size(); i++) {
            char type = tokens.get(i).type();
            if (type == '$') {
                return TEXT.matcher(types).matches() ? tokens.size() : i;
            }
            types.append(type);
            Matcher matcher = TEXT.matcher(types);
            if (type == '!' || !matcher.matches() && !matcher.hitEnd()) {
                return i;
            }
        }
        throw new IllegalStateException();
    }

    int tell(int n) {
        if (n < 0 || n > tape.size()) {
            trouble = 2;
            return NONE;
        }
        known = null;
        List<Token> tokens = tokens(new ArrayList<>(tape.subList(0, n)));
        tape.clear();
        List<String> oldKinds = new ArrayList<>(kinds);
        List<Integer> oldPlaces = new ArrayList<>(placesOf);
        List<String> oldThings = new ArrayList<>(things);
        List<Law> oldLaws = new ArrayList<>(laws);
        TreeSet<Integer> oldFacts = new TreeSet<>(facts);
        List<Fault> faults = new ArrayList<>();
        int form = formFault(tokens);
        int clauses = readAll(tokens, form, faults);
        if (form < tokens.size()) {
            faults.add(new Fault(form, 1, tokens.get(form).place()));
        }
        Fault first = null;
        for (Fault one : faults) {
            if (first == null || one.met < first.met
                    || one.met == first.met && one.number < first.number) {
                first = one;
            }
        }
        for (int r = oldLaws.size(); first == null && r < laws.size(); r++) {
            if (leansOnOwnRefusal(laws.subList(0, r + 1))) {
                first = new Fault(0, 6, laws.get(r).head.place);
            }
        }
        fault = first == null ? 0 : first.number;
        trouble = first == null ? 0 : 4;
        if (first == null) {
            return clauses;
        }
        place = first.place;
        kinds = oldKinds;
        placesOf = oldPlaces;
        things = oldThings;
        laws = oldLaws;
        facts = oldFacts;
        return NONE;
    }

    /** Reads on past faults that a TOKEN may have; only the first met counts. */
    private int readAll(List<Token> tokens, int end, List<Fault> faults) {
        int clauses = 0;
        Law law = new Law();
        Part part = null;
        boolean inside = false;
        boolean body = false;
        boolean begins = true;
        boolean refused = false;
        for (int i = 0; i < end; i++) {
            Token token = tokens.get(i);
            char type = token.type();
            char next = i + 1 < tokens.size() ? tokens.get(i + 1).type() : '$';
            char last = i > 0 ? tokens.get(i - 1).type() : '$';
            if (body && begins && law.parts.size() == 4 && !refused) {
                faults.add(new Fault(i, 4, token.place()));
            }
            boolean isArg = inside || last == '#' || body && begins && !refused && next == '#';
            if (isArg && "wnS".indexOf(type) >= 0) {
                if (!inside && last != '#') {
                    part = new Part();
                    part.type = 2;
                    law.parts.add(part);
                    begins = false;
                }
                part.args.add(argOf(token, i, law, faults));
                part.places.add(token.place());
            } else if (type == 'S') {
                // A SIGN that begins a TERM, with something else than # behind it
                argOf(token, i, law, faults);
                begins = false;
            } else if (type == 'n') {
                refused = true;
            } else if (type == 'w') {
                part = new Part();
                part.type = refused ? 1 : 0;
                part.place = token.place();
                refused = false;
                begins = false;
                if (body) {
                    law.parts.add(part);
                } else {
                    law.head = part;
                }
                part.kind = kindOf(token, i, faults);
                if (next != '(') {
                    checkPlaces(part, i, faults);
                }
            } else if (type == '(') {
                inside = true;
            } else if (type == ')') {
                inside = false;
                checkPlaces(part, i, faults);
            } else if (type == ':') {
                body = true;
                begins = true;
                if (laws.size() == 20) {
                    faults.add(new Fault(i, 4, token.place()));
                }
            } else if (type == ',' && !inside) {
                begins = true;
            } else if (type == '.') {
                if (body) {
                    checkSigns(law, i, faults);
                    laws.add(law);
                } else {
                    tellFact(law.head, i, faults);
                }
                clauses++;
                law = new Law();
                body = false;
            }
        }
        return clauses;
    }

    private int argOf(Token token, int i, Law law, List<Fault> faults) {
        List<String> names = token.type() == 'S' ? law.signs : things;
        if (!names.contains(token.text())) {
            if (names.size() == (token.type() == 'S' ? 3 : 10)) {
                faults.add(new Fault(i, 4, token.place()));
            }
            names.add(token.text());
        }
        return names.indexOf(token.text()) + (token.type() == 'S' ? 100 : 0);
    }

    private int kindOf(Token token, int i, List<Fault> faults) {
        if (!kinds.contains(token.text())) {
            if (kinds.size() == 10) {
                faults.add(new Fault(i, 4, token.place()));
            }
            kinds.add(token.text());
            placesOf.add(null);
        }
        return kinds.indexOf(token.text());
    }

    private void checkPlaces(Part part, int i, List<Fault> faults) {
        if (placesOf.get(part.kind) == null) {
            placesOf.set(part.kind, part.args.size());
        } else if (placesOf.get(part.kind) != part.args.size()) {
            faults.add(new Fault(i + 0.5, 2, part.place));
        }
    }

    private void tellFact(Part head, int i, List<Fault> faults) {
        int number = head.kind * 100;
        int weight = 10;
        for (int a = 0; a < head.args.size(); a++) {
            if (head.args.get(a) >= 100) {
                faults.add(new Fault(i, 3, head.places.get(a)));
                return;
            }
            number += weight * head.args.get(a);
            weight = 1;
        }
        facts.add(number);
    }

    private void checkSigns(Law law, int i, List<Fault> faults) {
        int first = Integer.MAX_VALUE;
        List<Part> parts = new ArrayList<>(law.parts);
        parts.add(law.head);
        for (Part part : parts) {
            for (int a = 0; a < part.args.size(); a++) {
                int arg = part.args.get(a);
                boolean needs = arg >= 100 && (part == law.head || part.type != 0);
                boolean has = false;
                for (Part other : law.parts) {
                    has |= other.type == 0 && other.args.contains(arg);
                }
                if (needs && !has) {
                    first = Math.min(first, part.places.get(a));
                }
            }
        }
        if (first != Integer.MAX_VALUE) {
            faults.add(new Fault(i, 5, first));
        }
    }

    private boolean leansOnOwnRefusal(List<Law> some) {
        int n = kinds.size();
        boolean[][] leans = new boolean[n][n];
        for (Law law : some) {
            for (Part part : law.parts) {
                if (part.type != 2) {
                    leans[law.head.kind][part.kind] = true;
                }
            }
        }
        for (int k = 0; k < n; k++) {
            for (int i = 0; i < n; i++) {
                for (int j = 0; j < n; j++) {
                    leans[i][j] |= leans[i][k] && leans[k][j];
                }
            }
        }
        for (Law law : some) {
            for (Part part : law.parts) {
                boolean back = part.type == 1
                    && (part.kind == law.head.kind || leans[part.kind][law.head.kind]);
                if (back) {
                    return true;
                }
            }
        }
        return false;
    }

    int fault() {
        return fault;
    }

    int where() {
        return trouble == 4 ? place : NONE;
    }

    // ---- what is told

    private boolean isAtom(int atom) {
        for (int k = 0; k < kinds.size(); k++) {
            for (int a = 0; a < Math.max(1, things.size()); a++) {
                for (int b = 0; b < Math.max(1, things.size()); b++) {
                    if (atom == 100 * k + 10 * a + b && atom(k, a, b) == atom) {
                        return true;
                    }
                }
            }
        }
        return false;
    }

    int atom(int kind, int first, int second) {
        if (kind < 0 || kind >= kinds.size()) {
            return NONE;
        }
        int places = placesOf.get(kind);
        boolean firstFits = places >= 1 ? first >= 0 && first < things.size() : first == 0;
        boolean secondFits = places == 2 ? second >= 0 && second < things.size() : second == 0;
        return firstFits && secondFits ? 100 * kind + 10 * first + second : NONE;
    }

    int name(int k, int i, boolean kind) {
        List<String> names = kind ? kinds : things;
        if (k < 0 || k >= names.size() || i < 0 || i >= names.get(k).length()) {
            throw new NoSuchElementException();
        }
        return names.get(k).charAt(i);
    }

    int places(int kind) {
        return kind < 0 || kind >= kinds.size() ? NONE : placesOf.get(kind);
    }

    int layer(int kind) {
        return kind < 0 || kind >= kinds.size() ? NONE : layers()[kind];
    }

    /** The most refusals on a way through the RULES (a way need not visit more than 30 KINDS). */
    private int[] layers() {
        int[] most = new int[kinds.size()];
        for (int length = 0; length < 30; length++) {
            int[] longer = most.clone();
            for (Law law : laws) {
                for (Part part : law.parts) {
                    if (part.type != 2) {
                        int by = most[part.kind] + part.type;
                        longer[law.head.kind] = Math.max(longer[law.head.kind], by);
                    }
                }
            }
            most = longer;
        }
        return most;
    }

    int fact(int atom, boolean is) {
        if (!isAtom(atom)) {
            trouble = 1;
            return NONE;
        }
        trouble = 0;
        known = null;
        return (is ? facts.add(atom) : facts.remove(atom)) ? 1 : 0;
    }

    boolean drop(int rule) {
        if (rule < 0 || rule >= laws.size()) {
            trouble = 1;
            return false;
        }
        trouble = 0;
        known = null;
        laws.remove(rule);
        return true;
    }

    // ---- what follows

    private static int thing(int arg, int[] signs) {
        return arg >= 100 ? signs[arg - 100] : arg;
    }

    private static int number(Part part, int[] signs) {
        int number = 100 * part.kind;
        if (part.args.size() > 0) {
            number += 10 * thing(part.args.get(0), signs);
        }
        if (part.args.size() > 1) {
            number += thing(part.args.get(1), signs);
        }
        return number;
    }

    private static boolean holds(Part part, int[] signs, TreeMap<Integer, Integer> model) {
        switch (part.type) {
            case 0: return model.containsKey(number(part, signs));
            case 1: return !model.containsKey(number(part, signs));
            default: return thing(part.args.get(0), signs) != thing(part.args.get(1), signs);
        }
    }

    private static boolean allHold(Law law, int[] signs, TreeMap<Integer, Integer> model) {
        for (Part part : law.parts) {
            if (!holds(part, signs, model)) {
                return false;
            }
        }
        return true;
    }

    private static int stepsBy(Law law, int[] signs, TreeMap<Integer, Integer> model) {
        int most = 0;
        for (Part part : law.parts) {
            if (part.type == 0) {
                most = Math.max(most, model.get(number(part, signs)));
            }
        }
        return most + 1;
    }

    /** Every row of THINGS for so many SIGNS, the least first. */
    private List<int[]> rows(int signs) {
        List<int[]> rows = new ArrayList<>();
        rows.add(new int[signs]);
        for (int s = 0; s < signs; s++) {
            List<int[]> longer = new ArrayList<>();
            for (int[] row : rows) {
                for (int t = 0; t < things.size(); t++) {
                    int[] next = row.clone();
                    next[s] = t;
                    longer.add(next);
                }
            }
            rows = longer;
        }
        return rows;
    }

    private TreeMap<Integer, Integer> model(TreeSet<Integer> from, List<Law> some) {
        TreeMap<Integer, Integer> model = new TreeMap<>();
        for (int atom : from) {
            model.put(atom, 0);
        }
        List<List<int[]>> rows = new ArrayList<>();
        for (int s = 0; s <= 3; s++) {
            rows.add(rows(s));
        }
        int[] layers = layers();
        for (int layer = 0; layer < 10; layer++) {
            boolean changed = true;
            while (changed) {
                TreeMap<Integer, Integer> next = new TreeMap<>(model);
                for (Law law : some) {
                    if (layers[law.head.kind] != layer) {
                        continue;
                    }
                    for (int[] row : rows.get(law.signs.size())) {
                        if (allHold(law, row, model)) {
                            next.merge(number(law.head, row), stepsBy(law, row, model), Math::min);
                        }
                    }
                }
                changed = !next.equals(model);
                model = next;
            }
        }
        return model;
    }

    private TreeMap<Integer, Integer> model() {
        if (known == null) {
            known = model(facts, laws);
        }
        return known;
    }

    int follows(int atom) {
        if (!isAtom(atom)) {
            return NONE;
        }
        return facts.contains(atom) ? 2 : model().containsKey(atom) ? 1 : 0;
    }

    int many(int kind) {
        if (kind < 0 || kind >= kinds.size()) {
            return NONE;
        }
        return model().subMap(100 * kind, 100 * kind + 100).size();
    }

    int one(int kind, int i) {
        if (kind < 0 || kind >= kinds.size()) {
            return NONE;
        }
        List<Integer> all = new ArrayList<>(model().subMap(100 * kind, 100 * kind + 100).keySet());
        return i < 0 || i >= all.size() ? NONE : all.get(i);
    }

    int steps(int atom) {
        return isAtom(atom) ? model().getOrDefault(atom, -2) : NONE;
    }

    int why(int atom) {
        if (!isAtom(atom)) {
            trouble = 1;
            return NONE;
        }
        TreeMap<Integer, Integer> model = model();
        if (!model.containsKey(atom)) {
            trouble = 5;
            return NONE;
        }
        trouble = 0;
        if (facts.contains(atom)) {
            return -2;
        }
        for (int r = 0; r < laws.size(); r++) {
            Law law = laws.get(r);
            for (int[] row : rows(law.signs.size())) {
                if (number(law.head, row) == atom && allHold(law, row, model)
                        && stepsBy(law, row, model) == model.get(atom)) {
                    reasons.clear();
                    for (Part part : law.parts) {
                        reasons.add(part.type == 2 ? -2 : number(part, row));
                    }
                    return r;
                }
            }
        }
        throw new IllegalStateException();
    }

    int because(int i) {
        return i < 0 || i >= reasons.size() ? NONE : reasons.get(i);
    }

    int comes(int rule, int atom) {
        boolean none = rule < 0 || rule >= laws.size() || !isAtom(atom)
            || laws.get(rule).head.kind != atom / 100;
        trouble = none ? 1 : 0;
        if (none) {
            return NONE;
        }
        Law law = laws.get(rule);
        Integer[] told = new Integer[law.signs.size()];
        int[] digits = {atom / 10 % 10, atom % 10};
        for (int a = 0; a < law.head.args.size(); a++) {
            int arg = law.head.args.get(a);
            if (arg < 100) {
                if (arg != digits[a]) {
                    return -2;
                }
            } else if (told[arg - 100] != null && told[arg - 100] != digits[a]) {
                return -2;
            } else {
                told[arg - 100] = digits[a];
            }
        }
        TreeMap<Integer, Integer> model = model();
        for (int length = law.parts.size(); length > 0; length--) {
            if (canHold(law, length, told, model)) {
                return length;
            }
        }
        return 0;
    }

    private boolean canHold(Law law, int length, Integer[] told, TreeMap<Integer, Integer> model) {
        TreeSet<Integer> open = new TreeSet<>();
        for (Part part : law.parts.subList(0, length)) {
            for (int arg : part.args) {
                if (arg >= 100 && told[arg - 100] == null) {
                    open.add(arg - 100);
                }
            }
        }
        for (int[] row : rows(open.size())) {
            int[] signs = new int[told.length];
            for (int s = 0; s < told.length; s++) {
                signs[s] = told[s] != null ? told[s] : 0;
            }
            int o = 0;
            for (int s : open) {
                signs[s] = row[o++];
            }
            boolean all = true;
            for (Part part : law.parts.subList(0, length)) {
                all &= holds(part, signs, model);
            }
            if (all) {
                return true;
            }
        }
        return false;
    }

    // ---- rules

    int rule(int k, int what) {
        if (k < 0 || k >= laws.size()) {
            return NONE;
        }
        Law law = laws.get(k);
        if (what == 0) {
            return law.head.kind;
        } else if (what == 1) {
            return law.parts.size();
        } else if (what == 2) {
            return law.signs.size();
        } else if (what == 3) {
            TreeMap<Integer, Integer> model = model();
            for (int[] row : rows(law.signs.size())) {
                if (allHold(law, row, model)) {
                    return 0;
                }
            }
            return 1;
        } else if (what == 4) {
            List<Law> others = new ArrayList<>(laws);
            others.remove(k);
            return model(facts, others).keySet().equals(model().keySet()) ? 1 : 0;
        }
        return NONE;
    }

    int term(int rule, int i, int what) {
        if (rule < 0 || rule >= laws.size() || i < 0 || i >= laws.get(rule).parts.size()) {
            return NONE;
        }
        Part part = laws.get(rule).parts.get(i);
        if (what == 0) {
            return part.type;
        } else if (what == 1) {
            return part.kind;
        } else if (what == 2 || what == 3) {
            return part.args.size() > what - 2 ? part.args.get(what - 2) : NONE;
        }
        return NONE;
    }

    int go(int atom) {
        if (!isAtom(atom)) {
            trouble = 1;
            return NONE;
        }
        if (!model().containsKey(atom)) {
            trouble = 5;
            return NONE;
        }
        if (facts.size() > 12) {
            trouble = 6;
            return NONE;
        }
        trouble = 0;
        List<Integer> sorted = new ArrayList<>(facts);
        int[] best = null;
        for (int set = 1; set < 1 << sorted.size(); set++) {
            int size = Integer.bitCount(set);
            if (size > 3 || best != null && size > best.length) {
                continue;
            }
            int[] row = new int[size];
            int p = 0;
            for (int f = 0; f < sorted.size(); f++) {
                if ((set >> f & 1) != 0) {
                    row[p++] = sorted.get(f);
                }
            }
            if (best != null && size == best.length && Arrays.compare(row, best) > 0) {
                continue;
            }
            TreeSet<Integer> left = new TreeSet<>(facts);
            for (int f : row) {
                left.remove(f);
            }
            if (!model(left, laws).containsKey(atom)) {
                best = row;
            }
        }
        if (best == null) {
            return -2;
        }
        cut.clear();
        for (int f : best) {
            cut.add(f);
        }
        return best.length;
    }

    int gone(int i) {
        return i < 0 || i >= cut.size() ? NONE : cut.get(i);
    }

    int derived() {
        TreeSet<Integer> all = new TreeSet<>(model().keySet());
        all.removeAll(facts);
        return all.size();
    }

    int deepest() {
        int most = 0;
        for (int steps : model().values()) {
            most = Math.max(most, steps);
        }
        return most;
    }

    int turned(int atom, boolean lost) {
        if (!isAtom(atom)) {
            trouble = 1;
            return NONE;
        }
        trouble = 0;
        TreeSet<Integer> turned = new TreeSet<>(facts);
        if (!turned.remove(atom)) {
            turned.add(atom);
        }
        TreeSet<Integer> before = new TreeSet<>(model().keySet());
        TreeSet<Integer> after = new TreeSet<>(model(turned, laws).keySet());
        TreeSet<Integer> difference = new TreeSet<>(lost ? before : after);
        difference.removeAll(lost ? after : before);
        return difference.size();
    }

    int count(int what) {
        switch (what) {
            case 0: return things.size();
            case 1: return kinds.size();
            case 2: return laws.size();
            case 3: return facts.size();
            case 4: return tape.size();
            case 5:
                int most = 0;
                for (int k = 0; k < kinds.size(); k++) {
                    most = Math.max(most, layers()[k] + 1);
                }
                return most;
            default: return NONE;
        }
    }

    int trouble() {
        return trouble;
    }
}
