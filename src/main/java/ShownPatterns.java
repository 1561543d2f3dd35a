import java.util.Arrays;

/** Finds text patterns for people who can only show what they mean. */
public final class ShownPatterns {
    public static final int BAD = -1, NOT = -2, FULL = -3;

    private static final int LETTER = 0, CLASS = 1, THEN = 2, EITHER = 3, AGAIN = 4, MAYBE = 5;
    private static final int KINDS = 6;
    private static final int[] OWN_COST = {2, 3, 1, 2, 2, 2};

    private static final int LETTERS = 3;
    private static final int CLASSES = 7;
    private static final int EMPTY_ROW = 1;
    private static final int MOST_LETTERS = 12;
    private static final int[] POWERS = {1, 3, 9, 27, 81, 243, 729, 2187, 6561, 19683, 59049, 177147, 531441};

    private static final int PLACES = 10;
    private static final int MOST_NODES = 12;
    private static final int NONE = -1;

    private static final int MOST_BYTES = 60;
    private static final int MOST_PARENTHESES = 6;
    private static final int FAULTY = -100;
    private static final int TOO_MUCH = -1000;

    /** A tree of 12 nodes has 6 leaves at most, for every leaf but one needs a node that joins it. */
    private static final int MOST_LEAVES = 6;
    private static final int LEAF_SETS = 1 << MOST_LEAVES;
    /** Behind the sets of leaves one state more: nothing is read yet. */
    private static final int START = LEAF_SETS;
    private static final int STATES = LEAF_SETS + 1;

    private static final int SHOWINGS = 20;
    private static final int MOST_SHOWN = 6;
    private static final int MOST_PRICE = 99;
    private static final int SHALL_NOT_FIT = 0, SHALL_FIT = 1, SHALL_COME_OUT = 2, SHALL_GIVE_NOTHING = 3;

    private static final int LEAST_COST = 2;
    private static final int MOST_COST = 10;
    /** So many patterns have a cost of at most 10. */
    private static final int PATTERNS = 4937;
    /** So many meanings do these patterns have. */
    private static final int MEANINGS = 1284;
    /** So many rows have at most 3 letters. */
    private static final int ASKED_ROWS = 40;

    private final Nodes[] places = new Nodes[PLACES];
    private final Reader reader = new Reader();
    private final Writer writer = new Writer();
    private final Automaton one = new Automaton();
    private final Automaton other = new Automaton();
    private final Ways ways = new Ways();
    private final Spans spans = new Spans(MOST_NODES);
    private final Showings showings = new Showings();
    // These are large, and many an object never needs them: made at the first call that does.
    private Pairs pairs;
    private Catalogue catalogue;
    private Finder finder;

    public ShownPatterns() {
        for (int place = 0; place < places.length; place++) {
            places[place] = new Nodes(MOST_NODES);
        }
    }

    // ---- patterns

    public int feed(int n, int v) {
        if (n < 1 || n > 4) {
            return BAD;
        }
        return reader.take(n, v);
    }

    public int read(int place) {
        Nodes target = placeAt(place);
        if (target == null) {
            return BAD;
        }
        int top = reader.parse();
        if (top < 0) {
            return FAULTY - reader.fault();
        }
        if (reader.nodes().size() > MOST_NODES) {
            return TOO_MUCH;
        }
        target.become(reader.nodes(), top);
        return target.cost();
    }

    public int say(int place, int at) {
        Nodes tree = patternAt(place);
        if (tree == null || at < -1) {
            return BAD;
        }
        writer.write(tree);
        if (at == -1) {
            return writer.length();
        }
        return at < writer.length() ? writer.signAt(at) : BAD;
    }

    public int drop(int place) {
        Nodes tree = patternAt(place);
        if (tree == null) {
            return BAD;
        }
        tree.clear();
        return 1;
    }

    public int about(int place, int what) {
        Nodes tree = patternAt(place);
        if (tree == null || what < 0 || what > 3) {
            return BAD;
        }
        if (what == 1) {
            return tree.size();
        }
        int cost = tree.cost();
        if (what == 0) {
            return cost;
        }
        if (cost > MOST_COST) {
            return NOT;
        }
        Catalogue all = theCatalogue();
        return what == 2 ? all.size(cost) : all.numberOf(tree) - all.begin(cost);
    }

    public int nth(int place, int cost, int i) {
        Nodes target = placeAt(place);
        if (target == null || !isCost(cost) || i < 0) {
            return BAD;
        }
        Catalogue all = theCatalogue();
        if (i >= all.size(cost)) {
            return BAD;
        }
        target.become(all.nodes(), all.begin(cost) + i);
        return target.size();
    }

    // ---- fitting

    public int fits(int place, int row) {
        Nodes tree = patternAt(place);
        int length = lengthOf(row);
        if (tree == null || length < 0) {
            return BAD;
        }
        one.build(tree);
        return one.longestFit(row, length, 0) == length ? 1 : 0;
    }

    public int out(int place, int row) {
        Nodes tree = patternAt(place);
        int length = lengthOf(row);
        if (tree == null || length < 0) {
            return BAD;
        }
        one.build(tree);
        for (int begin = 0; begin < length; begin++) {
            int end = one.longestFit(row, length, begin);
            if (end > begin) {
                return 100 * begin + end - begin;
            }
        }
        return NOT;
    }

    public int many(int place, int length) {
        Nodes tree = patternAt(place);
        if (tree == null || length < 0 || length > MOST_LETTERS) {
            return BAD;
        }
        one.build(tree);
        ways.fill(one, length);
        return ways.from(START, length);
    }

    public int row(int place, int length, int i) {
        int all = many(place, length);
        if (i < 0 || i >= all) {
            return BAD;
        }
        return ways.rowAt(one, length, i);
    }

    public int alike(int a, int b) {
        int row = partingRow(a, b, false);
        if (row == BAD) {
            return BAD;
        }
        return row == NOT ? 1 : 0;
    }

    public int parted(int a, int b) {
        return partingRow(a, b, false);
    }

    public int inside(int a, int b) {
        int row = partingRow(a, b, true);
        if (row == BAD) {
            return BAD;
        }
        return row == NOT ? 1 : 0;
    }

    // ---- showings

    public int show(int row, int said, int part, int price) {
        int length = lengthOf(row);
        if (length < 0 || length > MOST_SHOWN || price < 1 || price > MOST_PRICE) {
            return BAD;
        }
        if (!isPart(said, part, length)) {
            return BAD;
        }
        return showings.add(row, said, part, price);
    }

    public int back(int showing, int is) {
        if (!showings.has(showing) || is < 0 || is > 1) {
            return BAD;
        }
        return showings.takeBack(showing, is);
    }

    public int agrees(int place, int showing) {
        Nodes tree = patternAt(place);
        if (tree == null || !showings.has(showing)) {
            return BAD;
        }
        return agreesWith(tree, showing) ? 1 : 0;
    }

    public int paid(int place) {
        Nodes tree = patternAt(place);
        if (tree == null) {
            return BAD;
        }
        int against = 0;
        for (int showing = 0; showing < showings.size(); showing++) {
            if (!agreesWith(tree, showing)) {
                against |= 1 << showing;
            }
        }
        return showings.priceOf(against & showings.standing());
    }

    // ---- searches

    public int find(int place, int kinds, int cost) {
        Nodes target = placeAt(place);
        if (target == null || !isKinds(kinds) || !isCost(cost)) {
            return BAD;
        }
        Finder search = theFinder();
        search.begin(kinds, cost);
        return putFound(target, search.goOn());
    }

    public int next(int place) {
        Nodes target = placeAt(place);
        if (target == null || finder == null || !finder.hasBegun()) {
            return BAD;
        }
        return putFound(target, finder.goOn());
    }

    public int found() {
        return finder == null ? 0 : finder.foundSoFar();
    }

    public int open(int kinds, int cost) {
        if (!isKinds(kinds) || !isCost(cost)) {
            return BAD;
        }
        return theFinder().countOpen(kinds, cost);
    }

    public int ask(int kinds, int cost) {
        if (!isKinds(kinds) || !isCost(cost)) {
            return BAD;
        }
        return theFinder().evenestRow(kinds, cost);
    }

    public int asked() {
        return finder == null ? 0 : finder.haveAskedRow();
    }

    public int noise(int place, int kinds, int cost) {
        Nodes target = placeAt(place);
        if (target == null || !isKinds(kinds) || !isCost(cost)) {
            return BAD;
        }
        Finder search = theFinder();
        int pattern = search.cheapest(kinds, cost);
        if (pattern < 0) {
            return NOT;
        }
        target.become(theCatalogue().nodes(), pattern);
        return search.priceOf(pattern) + target.cost();
    }

    public int count(int what) {
        switch (what) {
            case 0:
                return patternsInPlaces();
            case 1:
                return showings.size();
            case 2:
                return showings.size() - Integer.bitCount(showings.standing());
            case 3:
                return reader.length();
            default:
                return BAD;
        }
    }

    // ---- what the calls share

    private Nodes placeAt(int place) {
        return place >= 0 && place < places.length ? places[place] : null;
    }

    private Nodes patternAt(int place) {
        Nodes tree = placeAt(place);
        return tree == null || tree.size() == 0 ? null : tree;
    }

    private int patternsInPlaces() {
        int held = 0;
        for (int place = 0; place < PLACES; place++) {
            if (patternAt(place) != null) {
                held++;
            }
        }
        return held;
    }

    private Catalogue theCatalogue() {
        if (catalogue == null) {
            catalogue = new Catalogue();
        }
        return catalogue;
    }

    private Finder theFinder() {
        if (finder == null) {
            finder = new Finder(theCatalogue(), showings);
        }
        return finder;
    }

    private int putFound(Nodes target, int pattern) {
        if (pattern < 0) {
            return NOT;
        }
        target.become(theCatalogue().nodes(), pattern);
        return target.cost();
    }

    private int partingRow(int a, int b, boolean onlyOfFirst) {
        Nodes first = patternAt(a);
        Nodes second = patternAt(b);
        if (first == null || second == null) {
            return BAD;
        }
        if (pairs == null) {
            pairs = new Pairs();
        }
        one.build(first);
        other.build(second);
        return pairs.firstRow(one, other, onlyOfFirst);
    }

    private boolean agreesWith(Nodes tree, int showing) {
        spans.lay(showings.rowOf(showing), lengthOf(showings.rowOf(showing)));
        spans.fill(tree);
        return showings.isSo(showing, spans.of(tree.size() - 1));
    }

    private static boolean isPart(int said, int part, int length) {
        if (said < SHALL_NOT_FIT || said > SHALL_GIVE_NOTHING) {
            return false;
        }
        if (said != SHALL_COME_OUT) {
            return part == 0;
        }
        return part > 0 && part % 10 >= 1 && part / 10 + part % 10 <= length;
    }

    private static boolean isKinds(int kinds) {
        return kinds > 0 && kinds < 1 << KINDS;
    }

    private static boolean isCost(int cost) {
        return cost >= LEAST_COST && cost <= MOST_COST;
    }

    /** How many letters a row has; NONE if the number is no row's. */
    private static int lengthOf(int row) {
        for (int length = 0; length < POWERS.length; length++) {
            if (row >= POWERS[length] && row < 2 * POWERS[length]) {
                return length;
            }
        }
        return NONE;
    }

    private static int letterAt(int row, int length, int at) {
        int rest = row;
        for (int behind = at + 1; behind < length; behind++) {
            rest /= LETTERS;
        }
        return rest % LETTERS;
    }

    private static int ownCost(int kind) {
        return kind >= 0 && kind < OWN_COST.length ? OWN_COST[kind] : 0;
    }

    private static boolean isLeaf(int kind) {
        return kind == LETTER || kind == CLASS;
    }

    private static boolean hasTwoParts(int kind) {
        return kind == THEN || kind == EITHER;
    }

    /** Nodes of patterns: a LETTER's v or a CLASS's s stands in left, else the numbers of the parts. */
    private static final class Nodes {
        private final int[] kind;
        private final int[] left;
        private final int[] right;
        private int size;

        Nodes(int most) {
            int room = Math.max(most, 0);
            kind = new int[room];
            left = new int[room];
            right = new int[room];
        }

        int size() {
            return size;
        }

        void clear() {
            size = 0;
        }

        int add(int ofKind, int x, int y) {
            if (size >= kind.length) {
                return NONE;
            }
            kind[size] = ofKind;
            left[size] = x;
            right[size] = y;
            size++;
            return size - 1;
        }

        int kindOf(int node) {
            return node >= 0 && node < size ? kind[node] : NONE;
        }

        int leftOf(int node) {
            return node >= 0 && node < size ? left[node] : NONE;
        }

        int rightOf(int node) {
            return node >= 0 && node < size ? right[node] : NONE;
        }

        void setRight(int node, int y) {
            if (node >= 0 && node < size) {
                right[node] = y;
            }
        }

        int cost() {
            int sum = 0;
            for (int node = 0; node < size; node++) {
                sum += ownCost(kind[node]);
            }
            return sum;
        }

        /** Takes the pattern below a node; its parts stand ahead of what they are parts of, its top is last. */
        void become(Nodes from, int node) {
            size = 0;
            copy(from, node, this, 0);
        }

        private static int copy(Nodes from, int node, Nodes to, int depth) {
            int of = from.kindOf(node);
            if (of == NONE || depth >= MOST_NODES) {
                return NONE;
            }
            if (isLeaf(of)) {
                return to.add(of, from.leftOf(node), 0);
            }
            int x = copy(from, from.leftOf(node), to, depth + 1);
            int y = hasTwoParts(of) ? copy(from, from.rightOf(node), to, depth + 1) : 0;
            return x < 0 || y < 0 ? NONE : to.add(of, x, y);
        }
    }

    /** THE TAPE, and how it becomes a pattern. */
    private static final class Reader {
        private final int[] bytes = new int[MOST_BYTES];
        private int length;
        /** A byte gives two nodes at most: its own, and the one that joins it to what is behind. */
        private final Nodes nodes = new Nodes(2 * MOST_BYTES);
        private final int[] pile = new int[MOST_BYTES];
        private int height;
        private int at;
        private int end;

        int length() {
            return length;
        }

        Nodes nodes() {
            return nodes;
        }

        int fault() {
            return at;
        }

        int take(int n, int v) {
            if (n < 0 || n > MOST_BYTES - length) {
                return FULL;
            }
            int rest = v;
            for (int i = 0; i < n; i++) {
                put(rest & 255);
                rest >>>= 8;
            }
            return length;
        }

        private void put(int sign) {
            if (length < bytes.length) {
                bytes[length] = sign;
                length++;
            }
        }

        /** Empties THE TAPE: the top of its pattern, or NONE, and then the fault is where reading stopped. */
        int parse() {
            nodes.clear();
            height = 0;
            at = 0;
            end = length;
            length = 0;
            int top = readChoice(0);
            return at < end ? NONE : top;
        }

        private int sign() {
            return at >= 0 && at < end && at < bytes.length ? bytes[at] : NONE;
        }

        private void push(int node) {
            if (height < pile.length) {
                pile[height] = node;
                height++;
            }
        }

        private int pop() {
            if (height <= 0) {
                return NONE;
            }
            height--;
            return pile[height];
        }

        private int readChoice(int depth) {
            int base = height;
            int node = readChain(depth);
            for (int i = 0; i < MOST_BYTES && node >= 0 && sign() == '|'; i++) {
                push(node);
                at++;
                node = readChain(depth);
            }
            for (int i = height; i > base && node >= 0; i--) {
                node = nodes.add(EITHER, pop(), node);
            }
            return node;
        }

        private int readChain(int depth) {
            int base = height;
            int node = readRepeats(depth);
            for (int i = 0; i < MOST_BYTES && node >= 0 && beginsPart(sign()); i++) {
                push(node);
                node = readRepeats(depth);
            }
            for (int i = height; i > base && node >= 0; i--) {
                node = chain(pop(), node);
            }
            return node;
        }

        private static boolean beginsPart(int sign) {
            return sign == '(' || sign == '[' || isLetter(sign);
        }

        private static boolean isLetter(int sign) {
            return sign >= 'a' && sign < 'a' + LETTERS;
        }

        /** The x of a THEN is no THEN: y comes behind the last part of a chain. */
        private int chain(int x, int y) {
            if (nodes.kindOf(x) != THEN) {
                return nodes.add(THEN, x, y);
            }
            int last = x;
            for (int i = 0; i < MOST_BYTES && nodes.kindOf(nodes.rightOf(last)) == THEN; i++) {
                last = nodes.rightOf(last);
            }
            nodes.setRight(last, nodes.add(THEN, nodes.rightOf(last), y));
            return x;
        }

        private int readRepeats(int depth) {
            int node = readPart(depth);
            for (int i = 0; i < MOST_BYTES && node >= 0 && (sign() == '+' || sign() == '?'); i++) {
                node = nodes.add(sign() == '+' ? AGAIN : MAYBE, node, 0);
                at++;
            }
            return node;
        }

        private int readPart(int depth) {
            int sign = sign();
            if (isLetter(sign)) {
                at++;
                return nodes.add(LETTER, sign - 'a', 0);
            }
            if (sign == '[') {
                at++;
                return readClass();
            }
            if (sign != '(' || depth >= MOST_PARENTHESES) {
                return NONE;
            }
            at++;
            int node = readChoice(depth + 1);
            if (node < 0 || sign() != ')') {
                return NONE;
            }
            at++;
            return node;
        }

        private int readClass() {
            int set = 0;
            for (int letter = 0; letter < LETTERS; letter++) {
                if (sign() == 'a' + letter) {
                    set |= 1 << letter;
                    at++;
                }
            }
            if (set == 0 || sign() != ']') {
                return NONE;
            }
            at++;
            return nodes.add(CLASS, set, 0);
        }
    }

    /** SAID: the text of a pattern. */
    private static final class Writer {
        private final int[] signs = new int[128];
        private int length;

        int length() {
            return length;
        }

        int signAt(int at) {
            return at >= 0 && at < length && at < signs.length ? signs[at] : BAD;
        }

        void write(Nodes tree) {
            length = 0;
            writeNode(this, tree, tree.size() - 1, 0);
        }

        private void put(int sign) {
            if (length < signs.length) {
                signs[length] = sign;
                length++;
            }
        }

        private static void writeNode(Writer to, Nodes tree, int node, int depth) {
            if (depth >= MOST_NODES) {
                return;
            }
            int kind = tree.kindOf(node);
            int x = tree.leftOf(node);
            int y = tree.rightOf(node);
            switch (kind) {
                case LETTER:
                    to.put('a' + x);
                    break;
                case CLASS:
                    to.putClass(x);
                    break;
                case THEN:
                    writePart(to, tree, x, tree.kindOf(x) == EITHER, depth);
                    writePart(to, tree, y, tree.kindOf(y) == EITHER, depth);
                    break;
                case EITHER:
                    writePart(to, tree, x, tree.kindOf(x) == EITHER, depth);
                    to.put('|');
                    writePart(to, tree, y, false, depth);
                    break;
                case AGAIN:
                case MAYBE:
                    writePart(to, tree, x, hasTwoParts(tree.kindOf(x)), depth);
                    to.put(kind == AGAIN ? '+' : '?');
                    break;
                default:
                    break;
            }
        }

        private static void writePart(Writer to, Nodes tree, int node, boolean enclosed, int depth) {
            if (enclosed) {
                to.put('(');
            }
            writeNode(to, tree, node, depth + 1);
            if (enclosed) {
                to.put(')');
            }
        }

        private void putClass(int set) {
            put('[');
            for (int letter = 0; letter < LETTERS; letter++) {
                if ((set >> letter & 1) == 1) {
                    put('a' + letter);
                }
            }
            put(']');
        }
    }

    /**
     * A pattern as an automaton: a state is the set of the leaves that may have taken the latest letter, or START.
     * Each row leads to one state, so rows can be counted and compared by states.
     */
    private static final class Automaton {
        private final boolean[] empty = new boolean[MOST_NODES];
        private final int[] firsts = new int[MOST_NODES];
        private final int[] lasts = new int[MOST_NODES];
        private final int[] followers = new int[MOST_LEAVES];
        private final int[] takers = new int[LETTERS];
        private final int[] steps = new int[STATES * LETTERS];
        private int leaves;
        private int ends;
        private boolean endsAtStart;

        void build(Nodes tree) {
            leaves = 0;
            Arrays.fill(followers, 0);
            Arrays.fill(takers, 0);
            int size = Math.min(tree.size(), MOST_NODES);
            for (int node = 0; node < size; node++) {
                addNode(tree, node);
            }
            int top = Math.max(size - 1, 0);
            ends = lasts[top];
            endsAtStart = empty[top];
            fillSteps(firsts[top]);
        }

        private void addNode(Nodes tree, int node) {
            int kind = tree.kindOf(node);
            int x = tree.leftOf(node);
            int y = tree.rightOf(node);
            if (isLeaf(kind)) {
                addLeaf(node, kind == LETTER ? 1 << x : x);
            } else if (x < 0 || x >= node || y < 0 || y >= node) {
                return;
            } else if (kind == THEN) {
                empty[node] = empty[x] && empty[y];
                firsts[node] = firsts[x] | (empty[x] ? firsts[y] : 0);
                lasts[node] = lasts[y] | (empty[y] ? lasts[x] : 0);
                follow(lasts[x], firsts[y]);
            } else if (kind == EITHER) {
                empty[node] = empty[x] || empty[y];
                firsts[node] = firsts[x] | firsts[y];
                lasts[node] = lasts[x] | lasts[y];
            } else {
                empty[node] = empty[x] || kind == MAYBE;
                firsts[node] = firsts[x];
                lasts[node] = lasts[x];
                follow(kind == AGAIN ? lasts[x] : 0, firsts[x]);
            }
        }

        private void addLeaf(int node, int set) {
            if (node < 0 || node >= MOST_NODES || leaves >= MOST_LEAVES) {
                return;
            }
            for (int letter = 0; letter < LETTERS; letter++) {
                if ((set >> letter & 1) == 1) {
                    takers[letter] |= 1 << leaves;
                }
            }
            empty[node] = false;
            firsts[node] = 1 << leaves;
            lasts[node] = 1 << leaves;
            leaves++;
        }

        private void follow(int from, int to) {
            for (int leaf = 0; leaf < MOST_LEAVES; leaf++) {
                if ((from >> leaf & 1) == 1) {
                    followers[leaf] |= to;
                }
            }
        }

        private void fillSteps(int atStart) {
            for (int letter = 0; letter < LETTERS; letter++) {
                steps[START * LETTERS + letter] = atStart & takers[letter];
                steps[letter] = 0;
                for (int leaf = 0; leaf < leaves && leaf < MOST_LEAVES; leaf++) {
                    int own = followers[leaf] & takers[letter];
                    for (int rest = 0; rest < 1 << leaf; rest++) {
                        steps[(rest | 1 << leaf) * LETTERS + letter] = steps[rest * LETTERS + letter] | own;
                    }
                }
            }
        }

        int after(int state, int letter) {
            int at = state * LETTERS + letter;
            return at >= 0 && at < steps.length ? steps[at] : 0;
        }

        boolean endsAt(int state) {
            return state == START ? endsAtStart : (state & ends) != 0;
        }

        /** Where the longest part that begins there and is fit ends; NONE if there is none, not even an empty one. */
        int longestFit(int row, int length, int begin) {
            int state = START;
            int longest = endsAtStart ? begin : NONE;
            for (int at = begin; at < length; at++) {
                state = after(state, letterAt(row, length, at));
                if (endsAt(state)) {
                    longest = at + 1;
                }
            }
            return longest;
        }
    }

    /** How many rows of each length lead from a state to an end. */
    private static final class Ways {
        private final int[] ways = new int[(MOST_LETTERS + 1) * STATES];

        void fill(Automaton automaton, int length) {
            int most = Math.min(length, MOST_LETTERS);
            for (int state = 0; state < STATES; state++) {
                ways[state] = automaton.endsAt(state) ? 1 : 0;
            }
            for (int left = 1; left <= most; left++) {
                for (int state = 0; state < STATES; state++) {
                    int sum = 0;
                    for (int letter = 0; letter < LETTERS; letter++) {
                        sum += from(automaton.after(state, letter), left - 1);
                    }
                    ways[left * STATES + state] = sum;
                }
            }
        }

        int from(int state, int length) {
            int at = length * STATES + state;
            return at >= 0 && at < ways.length ? ways[at] : 0;
        }

        int rowAt(Automaton automaton, int length, int i) {
            int row = EMPTY_ROW;
            int state = START;
            int rest = i;
            for (int left = Math.min(length, MOST_LETTERS) - 1; left >= 0; left--) {
                int letter = 0;
                int skipped = from(automaton.after(state, letter), left);
                while (letter < LETTERS - 1 && rest >= skipped) {
                    rest -= skipped;
                    letter++;
                    skipped = from(automaton.after(state, letter), left);
                }
                row = row * LETTERS + letter;
                state = automaton.after(state, letter);
            }
            return row;
        }
    }

    /** Goes through the pairs of states of two automata in the order of the first rows that lead there. */
    private static final class Pairs {
        private final int[] rows = new int[STATES * STATES];
        private final int[] queue = new int[STATES * STATES];
        private int waiting;

        /** The first row that just one fits (or the first one, and not the second); NOT: none; FULL: too long. */
        int firstRow(Automaton a, Automaton b, boolean onlyOfFirst) {
            Arrays.fill(rows, 0);
            waiting = 0;
            reach(START * STATES + START, EMPTY_ROW);
            for (int i = 0; i < waiting && i < queue.length; i++) {
                int pair = queue[i];
                int inA = pair / STATES;
                int inB = pair % STATES;
                int row = rowTo(pair);
                boolean endsA = a.endsAt(inA);
                boolean endsB = b.endsAt(inB);
                if (endsA && !endsB || endsB && !endsA && !onlyOfFirst) {
                    return row;
                }
                for (int letter = 0; letter < LETTERS; letter++) {
                    reach(a.after(inA, letter) * STATES + b.after(inB, letter), longer(row, letter));
                }
            }
            return NOT;
        }

        private int rowTo(int pair) {
            return pair >= 0 && pair < rows.length ? rows[pair] : FULL;
        }

        private void reach(int pair, int row) {
            if (pair < 0 || pair >= rows.length || rows[pair] != 0 || waiting >= queue.length) {
                return;
            }
            rows[pair] = row;
            queue[waiting] = pair;
            waiting++;
        }

        private static int longer(int row, int letter) {
            return row == FULL || row >= POWERS[MOST_LETTERS] ? FULL : row * LETTERS + letter;
        }
    }

    /** What was shown. Sets of showings are bits. */
    private static final class Showings {
        private final int[] rows = new int[SHOWINGS];
        private final int[] said = new int[SHOWINGS];
        private final int[] parts = new int[SHOWINGS];
        private final int[] prices = new int[SHOWINGS];
        private int size;
        private int takenBack;

        int size() {
            return size;
        }

        boolean has(int showing) {
            return showing >= 0 && showing < size && showing < SHOWINGS;
        }

        int add(int row, int what, int part, int price) {
            if (size >= SHOWINGS) {
                return FULL;
            }
            rows[size] = row;
            said[size] = what;
            parts[size] = part;
            prices[size] = price;
            size++;
            return size - 1;
        }

        int takeBack(int showing, int is) {
            int was = takenBack >> showing & 1;
            takenBack = takenBack & ~(1 << showing) | is << showing;
            return was;
        }

        /** Those that are not taken back. */
        int standing() {
            return (1 << size) - 1 & ~takenBack;
        }

        int priceOf(int set) {
            int sum = 0;
            for (int showing = 0; showing < size && showing < SHOWINGS; showing++) {
                if ((set >> showing & 1) == 1) {
                    sum += prices[showing];
                }
            }
            return sum;
        }

        int rowOf(int showing) {
            return has(showing) ? rows[showing] : EMPTY_ROW;
        }

        /** Whether a pattern with these spans of the showing's row agrees. */
        boolean isSo(int showing, long span) {
            if (!has(showing)) {
                return false;
            }
            int length = lengthOf(rows[showing]);
            switch (said[showing]) {
                case SHALL_NOT_FIT:
                    return !Spans.has(span, 0, length);
                case SHALL_FIT:
                    return Spans.has(span, 0, length);
                default:
                    // Part 0 stands for nothing, both in what is shown and in what comes out.
                    return Spans.partOut(span, length) == parts[showing];
            }
        }
    }

    /**
     * Which parts of one row of at most 6 letters are fit, for each of many nodes: bit 8 * begin + end.
     * So one number holds all parts of a row, and a THEN takes seven multiplications.
     */
    private static final class Spans {
        private static final int SIDE = 8;
        private static final long BEGINS = 0x0101010101010101L;
        private static final long ENDS = 0xFFL;
        private static final long EMPTY_PARTS = 0x8040201008040201L;

        private final long[] spans;
        private final long[] ofLetter = new long[LETTERS];

        Spans(int most) {
            spans = new long[Math.max(most, 0)];
        }

        void lay(int row, int length) {
            Arrays.fill(ofLetter, 0L);
            for (int at = 0; at < length && at < MOST_SHOWN; at++) {
                int letter = letterAt(row, length, at);
                if (letter >= 0 && letter < LETTERS) {
                    ofLetter[letter] |= 1L << SIDE * at + at + 1;
                }
            }
        }

        /** For all nodes; parts stand ahead of what they are parts of. */
        void fill(Nodes nodes) {
            int size = Math.min(nodes.size(), spans.length);
            for (int node = 0; node < size; node++) {
                spans[node] = spanOf(nodes.kindOf(node), nodes.leftOf(node), nodes.rightOf(node));
            }
        }

        long of(int node) {
            return node >= 0 && node < spans.length ? spans[node] : 0L;
        }

        private long spanOf(int kind, int x, int y) {
            switch (kind) {
                case LETTER:
                    return ofClass(1 << x);
                case CLASS:
                    return ofClass(x);
                case THEN:
                    return behind(of(x), of(y));
                case EITHER:
                    return of(x) | of(y);
                case AGAIN:
                    return again(of(x));
                default:
                    return of(x) | EMPTY_PARTS;
            }
        }

        private long ofClass(int set) {
            long span = 0L;
            for (int letter = 0; letter < LETTERS; letter++) {
                if ((set >> letter & 1) == 1) {
                    span |= ofLetter[letter];
                }
            }
            return span;
        }

        private static long behind(long x, long y) {
            long span = 0L;
            for (int middle = 0; middle <= MOST_SHOWN; middle++) {
                span |= (x >>> middle & BEGINS) * (y >>> SIDE * middle & ENDS);
            }
            return span;
        }

        /** Six letters have six parts at most; each turn doubles how many parts are joined. */
        private static long again(long x) {
            long span = x;
            for (int i = 0; i < 3; i++) {
                span |= behind(span, span);
            }
            return span;
        }

        static boolean has(long span, int begin, int end) {
            return (span >>> SIDE * begin + end & 1L) == 1L;
        }

        /** What comes out: 10 times its beginning, and its length; 0: nothing. */
        static int partOut(long span, int length) {
            for (int begin = 0; begin < length; begin++) {
                for (int end = length; end > begin; end--) {
                    if (has(span, begin, end)) {
                        return 10 * begin + end - begin;
                    }
                }
            }
            return 0;
        }
    }

    /** All patterns of a cost of at most 10, in their order. */
    private static final class Catalogue {
        private final Nodes nodes = new Nodes(PATTERNS);
        private final int[] begins = new int[MOST_COST + 2];
        private final int[] kinds = new int[PATTERNS];
        // Of the nodes of the tree whose number is sought.
        private final int[] numbers = new int[MOST_NODES];
        private final int[] costs = new int[MOST_NODES];

        Catalogue() {
            for (int cost = LEAST_COST; cost <= MOST_COST; cost++) {
                begins[cost] = nodes.size();
                addLeaves(cost, LETTER, 0, LETTERS - 1);
                addLeaves(cost, CLASS, 1, CLASSES);
                addPairs(cost, THEN);
                addPairs(cost, EITHER);
                addSingles(cost, AGAIN);
                addSingles(cost, MAYBE);
            }
            begins[MOST_COST + 1] = nodes.size();
        }

        Nodes nodes() {
            return nodes;
        }

        int begin(int cost) {
            return cost >= 0 && cost < begins.length ? begins[cost] : 0;
        }

        int end(int cost) {
            return begin(cost + 1);
        }

        int size(int cost) {
            return end(cost) - begin(cost);
        }

        /** The kinds that a pattern has, as bits. */
        int kindsOf(int pattern) {
            return pattern >= 0 && pattern < kinds.length ? kinds[pattern] : 0;
        }

        private void addLeaves(int cost, int kind, int from, int to) {
            if (cost == ownCost(kind)) {
                for (int v = from; v <= to; v++) {
                    add(kind, v, 0, 0);
                }
            }
        }

        private void addPairs(int cost, int kind) {
            int costOfParts = cost - ownCost(kind);
            for (int costOfX = LEAST_COST; costOfX <= costOfParts - LEAST_COST; costOfX++) {
                int costOfY = costOfParts - costOfX;
                for (int x = begin(costOfX); x < end(costOfX); x++) {
                    if (kind == THEN && nodes.kindOf(x) == THEN) {
                        continue;
                    }
                    for (int y = begin(costOfY); y < end(costOfY); y++) {
                        add(kind, x, y, kindsOf(x) | kindsOf(y));
                    }
                }
            }
        }

        private void addSingles(int cost, int kind) {
            int costOfX = cost - ownCost(kind);
            if (costOfX < LEAST_COST) {
                return;
            }
            for (int x = begin(costOfX); x < end(costOfX); x++) {
                add(kind, x, 0, kindsOf(x));
            }
        }

        private void add(int kind, int x, int y, int kindsOfParts) {
            int pattern = nodes.add(kind, x, y);
            if (pattern >= 0 && pattern < kinds.length) {
                kinds[pattern] = kindsOfParts | 1 << kind;
            }
        }

        /** The number of a tree of a cost of at most 10, among all. */
        int numberOf(Nodes tree) {
            int size = Math.min(tree.size(), MOST_NODES);
            for (int node = 0; node < size; node++) {
                numberNode(tree, node);
            }
            return size > 0 ? numbers[size - 1] : NONE;
        }

        private void numberNode(Nodes tree, int node) {
            if (node < 0 || node >= MOST_NODES) {
                return;
            }
            int kind = tree.kindOf(node);
            int x = tree.leftOf(node);
            int y = tree.rightOf(node);
            costs[node] = ownCost(kind);
            if (!isLeaf(kind) && x >= 0 && x < node) {
                costs[node] += costs[x];
                x = numbers[x];
            }
            if (hasTwoParts(kind) && y >= 0 && y < node) {
                costs[node] += costs[y];
                y = numbers[y];
            }
            numbers[node] = numberAmong(costs[node], kind, x, y);
        }

        private int numberAmong(int cost, int kind, int x, int y) {
            for (int pattern = begin(cost); pattern < end(cost); pattern++) {
                if (nodes.kindOf(pattern) == kind && nodes.leftOf(pattern) == x && nodes.rightOf(pattern) == y) {
                    return pattern;
                }
            }
            return NONE;
        }
    }

    /**
     * The meanings, each kept once and numbered. A meaning is five words of bits, rows by their order: the rows of at
     * most 2 letters (13), those of 3 letters (27), and those of 4 letters that begin with a, with b, with c (27 each).
     */
    private static final class Meanings {
        private static final int WORDS = 5;
        private static final int TWOS_AT = 4;
        private static final int THREES_AT = 13;
        private static final int FOURS = 2;
        private static final int SLOTS = 1 << 12;

        private final int[] kept = new int[WORDS * MEANINGS];
        private final int[] slots = new int[SLOTS];
        private final int[] made = new int[WORDS];
        private final int[] ahead = new int[WORDS];
        private final int[] behind = new int[WORDS];
        private int size;

        int size() {
            return size;
        }

        /** Whether a meaning has a row of at most 3 letters, told by its number in the order of rows. */
        boolean hasRow(int meaning, int row) {
            int bits = row < THREES_AT ? wordOf(meaning, 0) >> row : wordOf(meaning, 1) >> row - THREES_AT;
            return (bits & 1) == 1;
        }

        private int wordOf(int meaning, int word) {
            int at = meaning * WORDS + word;
            return at >= 0 && at < kept.length ? kept[at] : 0;
        }

        /** The number of the meaning that a kind makes of those of its parts. */
        int meaningOf(int kind, int x, int y) {
            Arrays.fill(made, 0);
            switch (kind) {
                case LETTER:
                    made[0] = 2 << x;
                    break;
                case CLASS:
                    made[0] = x << 1;
                    break;
                case THEN:
                    load(x, ahead);
                    load(y, behind);
                    addJoined();
                    break;
                case EITHER:
                    load(x, made);
                    load(y, behind);
                    addAll(behind, made);
                    break;
                case AGAIN:
                    load(x, made);
                    load(x, behind);
                    repeat();
                    break;
                default:
                    load(x, made);
                    made[0] |= 1;
                    break;
            }
            return keep();
        }

        private void load(int meaning, int[] words) {
            for (int word = 0; word < words.length; word++) {
                words[word] = wordOf(meaning, word);
            }
        }

        private static void addAll(int[] from, int[] to) {
            for (int word = 0; word < from.length && word < to.length; word++) {
                to[word] |= from[word];
            }
        }

        /** Each turn gives what is made one part more; four letters have four parts at most. */
        private void repeat() {
            for (int i = 0; i < 3; i++) {
                System.arraycopy(made, 0, ahead, 0, WORDS);
                addJoined();
            }
        }

        /** Adds to what is made each row ahead with each row behind, as far as both have 4 letters at most. */
        private void addJoined() {
            if ((ahead[0] & 1) == 1) {
                addAll(behind, made);
            }
            if ((behind[0] & 1) == 1) {
                addAll(ahead, made);
            }
            int ones = behind[0] >> 1 & 7;
            int twos = behind[0] >> TWOS_AT & 511;
            for (int u = 0; u < 3; u++) {
                if ((ahead[0] >> 1 + u & 1) == 1) {
                    made[0] |= ones << TWOS_AT + 3 * u;
                    made[1] |= twos << 9 * u;
                    made[FOURS + u] |= behind[1];
                }
            }
            for (int u = 0; u < 9; u++) {
                if ((ahead[0] >> TWOS_AT + u & 1) == 1) {
                    made[1] |= ones << 3 * u;
                    made[FOURS + u / 3] |= twos << 9 * (u % 3);
                }
            }
            for (int u = 0; u < 27; u++) {
                if ((ahead[1] >> u & 1) == 1) {
                    made[FOURS + u / 9] |= ones << 3 * (u % 9);
                }
            }
        }

        /** The number of what is made; it is kept if it is new. */
        private int keep() {
            int hash = 0;
            for (int word = 0; word < WORDS; word++) {
                hash = hash * 0x2545F491 + made[word];
                hash ^= hash >>> 15;
            }
            for (int i = 0; i < SLOTS; i++) {
                int slot = hash + i & SLOTS - 1;
                if (slots[slot] == 0) {
                    slots[slot] = size + 1;
                    return keepNew();
                }
                if (isMade(slots[slot] - 1)) {
                    return slots[slot] - 1;
                }
            }
            return NONE;
        }

        private boolean isMade(int meaning) {
            for (int word = 0; word < WORDS; word++) {
                if (wordOf(meaning, word) != made[word]) {
                    return false;
                }
            }
            return true;
        }

        private int keepNew() {
            if (size >= MEANINGS) {
                return NONE;
            }
            System.arraycopy(made, 0, kept, size * WORDS, WORDS);
            size++;
            return size - 1;
        }
    }

    /** Searches among all patterns of the catalogue, by what is shown. */
    private static final class Finder {
        private final Catalogue all;
        private final Showings showings;
        private final Meanings meanings = new Meanings();
        private final int[] meaningOf = new int[PATTERNS];
        /** The showings with which a pattern agrees, of the first so many that are judged. */
        private final int[] agreed = new int[PATTERNS];
        private final Spans spans = new Spans(PATTERNS);
        private int judged;
        /** By meaning: the latest count that met it. */
        private final int[] metIn = new int[MEANINGS];
        private int counts;
        private final int[] having = new int[ASKED_ROWS];
        private int haveAsked;
        /** By meaning: the latest search that found it. */
        private final int[] foundIn = new int[MEANINGS];
        private int searches;
        private int kindsSought;
        private int at;
        private int end;
        private int foundHere;

        Finder(Catalogue all, Showings showings) {
            this.all = all;
            this.showings = showings;
            Nodes nodes = all.nodes();
            int size = Math.min(nodes.size(), PATTERNS);
            for (int pattern = 0; pattern < size; pattern++) {
                int kind = nodes.kindOf(pattern);
                int x = nodes.leftOf(pattern);
                int y = nodes.rightOf(pattern);
                meaningOf[pattern] = isLeaf(kind)
                        ? meanings.meaningOf(kind, x, 0)
                        : meanings.meaningOf(kind, meaningAt(x), meaningAt(y));
            }
        }

        private int meaningAt(int pattern) {
            return pattern >= 0 && pattern < meaningOf.length ? meaningOf[pattern] : NONE;
        }

        /** A showing's row never changes, so each pattern is judged by it once. */
        private void judgeNew() {
            for (int showing = judged; showing < showings.size(); showing++) {
                int row = showings.rowOf(showing);
                spans.lay(row, lengthOf(row));
                spans.fill(all.nodes());
                for (int pattern = 0; pattern < PATTERNS; pattern++) {
                    if (showings.isSo(showing, spans.of(pattern))) {
                        agreed[pattern] |= 1 << showing;
                    }
                }
            }
            judged = showings.size();
        }

        private boolean isOfKinds(int pattern, int kinds) {
            return (all.kindsOf(pattern) & ~kinds) == 0;
        }

        private int against(int pattern) {
            return pattern >= 0 && pattern < PATTERNS ? showings.standing() & ~agreed[pattern] : 0;
        }

        void begin(int kinds, int cost) {
            searches++;
            kindsSought = kinds;
            at = 0;
            end = Math.min(all.end(cost), PATTERNS);
            foundHere = 0;
        }

        boolean hasBegun() {
            return searches > 0;
        }

        int foundSoFar() {
            return foundHere;
        }

        /** The next pattern of the search; NONE at its end, and there it stays. */
        int goOn() {
            judgeNew();
            for (; at < end; at++) {
                if (isOfKinds(at, kindsSought) && against(at) == 0 && isNew(foundIn, meaningAt(at), searches)) {
                    foundHere++;
                    at++;
                    return at - 1;
                }
            }
            return NONE;
        }

        private static boolean isNew(int[] latest, int meaning, int turn) {
            if (meaning < 0 || meaning >= latest.length || latest[meaning] == turn) {
                return false;
            }
            latest[meaning] = turn;
            return true;
        }

        int countOpen(int kinds, int cost) {
            judgeNew();
            counts++;
            int met = 0;
            int last = Math.min(all.end(cost), PATTERNS);
            for (int pattern = 0; pattern < last; pattern++) {
                if (isOfKinds(pattern, kinds) && against(pattern) == 0 && isNew(metIn, meaningAt(pattern), counts)) {
                    met++;
                }
            }
            return met;
        }

        /** Counts the rows that the meanings of the latest count have. */
        private void countRows() {
            Arrays.fill(having, 0);
            int last = Math.min(meanings.size(), MEANINGS);
            for (int meaning = 0; meaning < last; meaning++) {
                if (metIn[meaning] == counts) {
                    addRows(meaning);
                }
            }
        }

        private void addRows(int meaning) {
            for (int row = 0; row < ASKED_ROWS; row++) {
                if (meanings.hasRow(meaning, row)) {
                    having[row]++;
                }
            }
        }

        int evenestRow(int kinds, int cost) {
            int met = countOpen(kinds, cost);
            countRows();
            int best = 0;
            int evenest = 0;
            for (int row = 0; row < ASKED_ROWS; row++) {
                int lesser = Math.min(having[row], met - having[row]);
                if (lesser > evenest) {
                    evenest = lesser;
                    best = row;
                }
            }
            haveAsked = evenest > 0 ? having[best] : 0;
            return evenest > 0 ? rowBy(best) : NOT;
        }

        /** The row with a number by order, from 0 on. */
        private static int rowBy(int order) {
            int rest = order;
            for (int length = 0; length < POWERS.length; length++) {
                if (rest < POWERS[length]) {
                    return POWERS[length] + rest;
                }
                rest -= POWERS[length];
            }
            return EMPTY_ROW;
        }

        int haveAskedRow() {
            return haveAsked;
        }

        /** The pattern whose price and cost together are least; NONE if there is none of the kinds. */
        int cheapest(int kinds, int cost) {
            judgeNew();
            int best = NONE;
            int least = 0;
            // What costs as much alone as the best in all comes too late.
            for (int own = LEAST_COST; own <= cost && (best == NONE || own < least); own++) {
                int last = Math.min(all.end(own), PATTERNS);
                for (int pattern = all.begin(own); pattern < last; pattern++) {
                    if (!isOfKinds(pattern, kinds)) {
                        continue;
                    }
                    int sum = priceOf(pattern) + own;
                    if (best == NONE || sum < least) {
                        best = pattern;
                        least = sum;
                    }
                }
            }
            return best;
        }

        int priceOf(int pattern) {
            return showings.priceOf(against(pattern));
        }
    }
}
