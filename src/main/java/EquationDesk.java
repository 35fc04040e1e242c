import java.util.Arrays;

/**
 * A bench for equations between terms, some operators being commutative.
 *
 * A term is a row of codes, one for each of its nodes in the order of their numbers: a variable is
 * its own number (6 higher where two rules' variables are held apart), a symbol is its number
 * behind all variables. As a code tells its arity, such a row needs no marks for its parts, and
 * the order of sorted terms is just the order of the rows, code by code. A row that is kept is
 * never changed again, so places, rules and pairs may share it.
 */
public final class EquationDesk {
    public static final int NONE = -1;

    private static final int PLACES = 16;
    private static final int VARIABLES = 6;
    /** Those of a term, and the same ones 6 higher. */
    private static final int ALL_VARIABLES = 12;
    private static final int SYMBOLS = 10;
    private static final int MOST_NODES = 24;
    private static final int MOST_RULES = 16;
    private static final int MOST_PAIRS = 60;
    private static final int MOST_STEPS = 30;
    private static final int MOST_REWRITINGS = 1000;
    private static final int MOST_UNIFIERS = 32;
    private static final int TOO_MANY = 33;
    private static final int MOST_WAYS = 1000;
    private static final int FIRST_FUEL = 120000;
    private static final int VARIABLE_MARK = 100;
    /** Far above the turns that the fuel allows any loop. */
    private static final int FAR = 1000000;

    private static final int STEP_DONE = 0;
    private static final int STEP_STUCK = 1;
    private static final int STEP_LIMIT = 2;

    private static final int PAIRS_WAIT = 0;
    private static final int NO_PAIR_WAITS = 1;
    private static final int NO_ORDER = 2;
    private static final int LIMIT_MET = 3;

    private static final int UNPROVED = 0;
    private static final int PROVED = 1;
    private static final int UNKNOWN = 2;

    private final Signature signature;
    private final PathOrder order;
    private final Matcher matcher;
    private final Unification unification;
    private final Reducer reducer;
    private final Completion completion;
    private final Renaming renaming;
    private final Row built;
    private final int[][] places;

    public EquationDesk() {
        Tank tank = new Tank();
        signature = new Signature();
        order = new PathOrder(signature);
        matcher = new Matcher(signature, tank);
        unification = new Unification(signature, tank);
        reducer = new Reducer(signature, matcher);
        renaming = new Renaming(signature);
        completion = new Completion(signature, order, matcher, reducer, unification, renaming);
        built = new Row(MOST_NODES);
        int[] variableZero = {0};
        places = new int[PLACES][];
        for (int i = 0; i < PLACES; i++) {
            places[i] = variableZero;
        }
    }

    public int symbol(int arity, boolean commutative) {
        if (arity < 0 || arity > 2 || (commutative && arity != 2)) {
            return NONE;
        }
        return signature.define(arity, commutative);
    }

    public boolean variable(int place, int variable) {
        if (!isPlace(place) || !isVariable(variable)) {
            return false;
        }
        places[place] = new int[] {variable};
        return true;
    }

    public boolean term(int place, int symbol, int first, int second) {
        if (!isPlace(place) || !signature.isDefined(symbol)) {
            return false;
        }
        int code = ALL_VARIABLES + symbol;
        int arity = signature.arityOf(code);
        if ((arity > 0 && !isPlace(first)) || (arity > 1 && !isPlace(second))) {
            return false;
        }
        built.length = 0;
        built.add(code);
        if (arity > 0) {
            built.addAll(places[first], 0, places[first].length);
        }
        if (arity > 1) {
            built.addAll(places[second], 0, places[second].length);
        }
        return putBuilt(place);
    }

    public int size(int place) {
        return isPlace(place) ? places[place].length : NONE;
    }

    public int node(int place, int node) {
        if (!isPlace(place) || node < 0 || node >= places[place].length) {
            return NONE;
        }
        int code = places[place][node];
        return code < ALL_VARIABLES ? VARIABLE_MARK + code : code - ALL_VARIABLES;
    }

    public boolean same(int a, int b) {
        return isPlace(a) && isPlace(b) && areSame(places[a], places[b]);
    }

    public boolean greater(int a, int b) {
        return isPlace(a) && isPlace(b) && order.isAbove(places[a], places[b]);
    }

    public int matches(int pattern, int term) {
        if (!isPlace(pattern) || !isPlace(term)) {
            return NONE;
        }
        return matcher.findAll(places[pattern], places[term], 0);
    }

    public boolean match(int pattern, int term, int i, int variable, int to) {
        if (!isPlace(pattern) || !isPlace(term) || !isVariable(variable) || !isPlace(to)) {
            return false;
        }
        int[] nodes = places[term];
        int found = matcher.findAll(places[pattern], nodes, 0);
        if (i < 0 || i >= found) {
            return false;
        }
        int from = matcher.boundTo(i, variable);
        if (from == NONE) {
            return false;
        }
        places[to] = Arrays.copyOfRange(nodes, from, signature.end(nodes, from));
        return true;
    }

    public int unifiers(int a, int b) {
        if (!isPlace(a) || !isPlace(b)) {
            return NONE;
        }
        return unification.findAll(places[a], 0, places[b], 0);
    }

    public boolean unifier(int a, int b, int i, int to) {
        if (!isPlace(a) || !isPlace(b) || !isPlace(to)) {
            return false;
        }
        int found = unification.findAll(places[a], 0, places[b], 0);
        if (found == TOO_MANY || i < 0 || i >= found) {
            return false;
        }
        built.length = 0;
        unification.append(built, places[a], 0, places[a].length, 0, i);
        return putBuilt(to);
    }

    public boolean equation(int a, int b) {
        if (!isPlace(a) || !isPlace(b) || completion.pairs.count >= MOST_PAIRS) {
            return false;
        }
        renaming.rename(places[a], places[a].length, places[b], places[b].length);
        completion.pairs.add(renaming.first, renaming.second);
        return true;
    }

    public int complete(int n) {
        int steps = n < 0 || n > MOST_STEPS ? 0 : n;
        int last = STEP_DONE;
        for (int i = 0; i < steps && last == STEP_DONE && completion.canGoOn(); i++) {
            last = completion.step();
        }
        if (completion.limited) {
            return LIMIT_MET;
        }
        if (last == STEP_STUCK) {
            return NO_ORDER;
        }
        return completion.pairs.count == 0 ? NO_PAIR_WAITS : PAIRS_WAIT;
    }

    public int rules() {
        return completion.rules.count;
    }

    public boolean rule(int i, boolean right, int to) {
        return putFrom(completion.rules, i, right, to);
    }

    public int waiting() {
        return completion.pairs.count;
    }

    public boolean pair(int i, boolean second, int to) {
        return putFrom(completion.pairs, i, second, to);
    }

    public boolean reduce(int place, int to) {
        if (!isPlace(place) || !isPlace(to)) {
            return false;
        }
        int[] reduced = reducer.normalForm(places[place], completion.rules);
        if (reduced == null) {
            return false;
        }
        places[to] = reduced;
        return true;
    }

    public int prove(int a, int b) {
        if (!isPlace(a) || !isPlace(b)) {
            return NONE;
        }
        int[] first = reducer.normalForm(places[a], completion.rules);
        if (first == null) {
            return UNKNOWN;
        }
        int[] second = reducer.normalForm(places[b], completion.rules);
        if (second == null) {
            return UNKNOWN;
        }
        if (areSame(first, second)) {
            return PROVED;
        }
        return completion.pairs.count == 0 ? UNPROVED : UNKNOWN;
    }

    private boolean putBuilt(int place) {
        if (built.length > MOST_NODES) {
            return false;
        }
        signature.sort(built.cells, 0, built.length);
        places[place] = built.copy();
        return true;
    }

    private boolean putFrom(Couples couples, int i, boolean second, int to) {
        if (i < 0 || i >= couples.count || !isPlace(to)) {
            return false;
        }
        places[to] = second ? couples.second[i] : couples.first[i];
        return true;
    }

    private static boolean isPlace(int place) {
        return place >= 0 && place < PLACES;
    }

    private static boolean isVariable(int variable) {
        return variable >= 0 && variable < VARIABLES;
    }

    private static boolean areSame(int[] a, int[] b) {
        return a.length == b.length && haveSameNodes(a, 0, b, 0, a.length);
    }

    /** No term's row begins another one's, so the length of one of the two is enough. */
    private static boolean haveSameNodes(int[] a, int from, int[] b, int at, int length) {
        if (from + length > a.length || at + length > b.length) {
            return false;
        }
        for (int i = 0; i < length; i++) {
            if (a[from + i] != b[at + i]) {
                return false;
            }
        }
        return true;
    }

    /** A row of numbers that grows, kept to be used again. */
    private static final class Row {
        int[] cells;
        int length;

        Row(int capacity) {
            cells = new int[capacity];
        }

        void add(int value) {
            if (length == cells.length) {
                cells = Arrays.copyOf(cells, 2 * length + 1);
            }
            cells[length] = value;
            length++;
        }

        void addAll(int[] values, int from, int to) {
            int after = length + to - from;
            if (after > cells.length) {
                cells = Arrays.copyOf(cells, 2 * after);
            }
            System.arraycopy(values, from, cells, length, to - from);
            length = after;
        }

        int[] copy() {
            return Arrays.copyOf(cells, length);
        }
    }

    /** The fuel of a desk; once less is left than a pair costs, nothing is given any more. */
    private static final class Tank {
        private int left = FIRST_FUEL;
        private boolean out;

        boolean take(int cost) {
            if (cost > left) {
                out = true;
            }
            if (out) {
                return false;
            }
            left -= cost;
            return true;
        }
    }

    /** The symbols, and what depends on their arities alone. */
    private static final class Signature {
        private final int[] arities = new int[ALL_VARIABLES + SYMBOLS];
        private final boolean[] swaps = new boolean[ALL_VARIABLES + SYMBOLS];
        private int count;
        private int[] ends = new int[MOST_NODES];
        private int[] spare = new int[MOST_NODES];

        int define(int arity, boolean commutative) {
            if (count >= SYMBOLS) {
                return NONE;
            }
            arities[ALL_VARIABLES + count] = arity;
            swaps[ALL_VARIABLES + count] = commutative;
            count++;
            return count - 1;
        }

        boolean isDefined(int symbol) {
            return symbol >= 0 && symbol < count;
        }

        int arityOf(int code) {
            return arities[code];
        }

        boolean isCommutative(int code) {
            return swaps[code];
        }

        /** The position behind the term that begins at a position. */
        int end(int[] nodes, int at) {
            int missing = 1;
            int position = at;
            while (missing > 0 && position < nodes.length) {
                missing += arities[nodes[position]] - 1;
                position++;
            }
            return position;
        }

        /** From the last node to the first, so that arguments are sorted before their symbol's. */
        void sort(int[] nodes, int from, int to) {
            if (to - from > ends.length) {
                ends = new int[2 * (to - from)];
                spare = new int[2 * (to - from)];
            }
            for (int at = to - 1; at >= from; at--) {
                int code = nodes[at];
                int second = arities[code] > 0 ? ends[at + 1 - from] : at + 1;
                int end = arities[code] > 1 ? ends[second - from] : second;
                ends[at - from] = end;
                if (swaps[code]) {
                    int a = at + 1;
                    int b = second;
                    while (a < second && b < end && nodes[a] == nodes[b]) {
                        a++;
                        b++;
                    }
                    if (a < second && b < end && nodes[a] > nodes[b]) {
                        int first = second - at - 1;
                        System.arraycopy(nodes, at + 1, spare, 0, first);
                        System.arraycopy(nodes, second, nodes, at + 1, end - second);
                        System.arraycopy(spare, 0, nodes, end - first, first);
                    }
                }
            }
        }
    }

    /** Two rows of terms side by side: the rules, or the pairs that wait. */
    private static final class Couples {
        final int[][] first;
        final int[][] second;
        int count;

        Couples(int capacity) {
            first = new int[capacity][];
            second = new int[capacity][];
            int[] variableZero = {0};
            for (int i = 0; i < capacity; i++) {
                first[i] = variableZero;
                second[i] = variableZero;
            }
        }

        /** What is too many is counted but not kept: a step is judged at its end. */
        void add(int[] a, int[] b) {
            if (count < first.length) {
                first[count] = a;
                second[count] = b;
            }
            count++;
        }
    }

    /** Two terms renamed by their variables; the last ones stand in first and second. */
    private static final class Renaming {
        private final Signature signature;
        private final int[] names = new int[ALL_VARIABLES];
        private int used;
        int[] first = {0};
        int[] second = {0};

        Renaming(Signature signature) {
            this.signature = signature;
        }

        /** False if there are too many variables. */
        boolean rename(int[] a, int aLength, int[] b, int bLength) {
            Arrays.fill(names, NONE);
            used = 0;
            first = renamed(a, aLength);
            second = renamed(b, bLength);
            return used <= VARIABLES;
        }

        private int[] renamed(int[] nodes, int length) {
            int[] result = Arrays.copyOf(nodes, length);
            for (int i = 0; i < result.length; i++) {
                int code = result[i];
                if (code < ALL_VARIABLES) {
                    if (names[code] == NONE) {
                        names[code] = used;
                        used++;
                    }
                    result[i] = names[code];
                }
            }
            signature.sort(result, 0, result.length);
            return result;
        }
    }

    /** The path order, decided for all parts of two terms, from their last nodes to their first. */
    private static final class PathOrder {
        private static final int NEITHER = 0;
        private static final int SAME = 1;
        private static final int ABOVE = 2;

        private final Signature signature;
        private final int[] table = new int[MOST_NODES * MOST_NODES];
        private final int[] secondOfS = new int[MOST_NODES];
        private final int[] secondOfT = new int[MOST_NODES];

        PathOrder(Signature signature) {
            this.signature = signature;
        }

        boolean isAbove(int[] s, int[] t) {
            if (s.length > MOST_NODES || t.length > MOST_NODES) {
                return false;
            }
            findSeconds(s, secondOfS);
            findSeconds(t, secondOfT);
            for (int i = s.length - 1; i >= 0; i--) {
                for (int j = t.length - 1; j >= 0; j--) {
                    table[i * MOST_NODES + j] = relation(s[i], t[j], i, j);
                }
            }
            return table[0] == ABOVE;
        }

        private void findSeconds(int[] nodes, int[] seconds) {
            for (int i = 0; i < nodes.length; i++) {
                seconds[i] = signature.arityOf(nodes[i]) > 1 ? signature.end(nodes, i + 1) : i;
            }
        }

        private int relation(int f, int g, int i, int j) {
            if (f < ALL_VARIABLES) {
                return f == g ? SAME : NEITHER;
            }
            int arity = signature.arityOf(f);
            if (arity > 0 && known(i + 1, j) != NEITHER) {
                return ABOVE;
            }
            if (arity > 1 && known(secondOfS[i], j) != NEITHER) {
                return ABOVE;
            }
            // A variable that occurs in s has been met among the arguments by now.
            if (g < ALL_VARIABLES || f < g) {
                return NEITHER;
            }
            if (f == g && haveSameArguments(arity, i, j)) {
                return SAME;
            }
            int others = signature.arityOf(g);
            if (others > 0 && known(i, j + 1) != ABOVE) {
                return NEITHER;
            }
            if (others > 1 && known(i, secondOfT[j]) != ABOVE) {
                return NEITHER;
            }
            return f > g || argumentsDecide(f, i, j) ? ABOVE : NEITHER;
        }

        private int known(int i, int j) {
            return table[i * MOST_NODES + j];
        }

        private boolean haveSameArguments(int arity, int i, int j) {
            return (arity < 1 || known(i + 1, j + 1) == SAME)
                && (arity < 2 || known(secondOfS[i], secondOfT[j]) == SAME);
        }

        private boolean argumentsDecide(int f, int i, int j) {
            int a = known(i + 1, j + 1);
            if (signature.arityOf(f) < 2) {
                return a == ABOVE;
            }
            int d = known(secondOfS[i], secondOfT[j]);
            if (!signature.isCommutative(f)) {
                return a == ABOVE || (a == SAME && d == ABOVE);
            }
            int b = known(i + 1, secondOfT[j]);
            int c = known(secondOfS[i], j + 1);
            // An argument that both have is lost: the other two decide.
            if (a == SAME) {
                return d == ABOVE;
            }
            if (b == SAME) {
                return c == ABOVE;
            }
            if (c == SAME) {
                return b == ABOVE;
            }
            if (d == SAME) {
                return a == ABOVE;
            }
            return (a == ABOVE || c == ABOVE) && (b == ABOVE || d == ABOVE);
        }
    }

    /**
     * All matches of a pattern with a part of a term. The pairs are taken in the order of the
     * pattern's nodes, whichever way its arguments go, so a way is told by the pattern's next
     * node, and by the part of the term that each node goes with.
     */
    private static final class Matcher {
        private static final int BITS = 5;
        private static final int MASK = 31;

        private final Signature signature;
        private final Tank tank;
        private final int[] goesWith = new int[MOST_NODES];
        /** A node that may still go crosswise, and what was bound there, one behind the other. */
        private final int[] choices = new int[2 * MOST_NODES];
        private int open;
        private int[] found = new int[MOST_NODES];
        private int count;
        private int[] pattern = {0};
        private int[] term = {0};
        private int start;
        /** For each variable, 5 bits: 0, or 1 and where the first part like its own begins. */
        private int bound;

        Matcher(Signature signature, Tank tank) {
            this.signature = signature;
            this.tank = tank;
        }

        /** How many, or NONE if the fuel is out. */
        int findAll(int[] patternNodes, int[] termNodes, int at) {
            pattern = patternNodes;
            term = termNodes;
            start = at;
            bound = 0;
            open = 0;
            count = 0;
            goesWith[0] = at;
            int next = 0;
            for (int turn = 0; turn < FAR && next != NONE; turn++) {
                if (next >= pattern.length) {
                    keep();
                    next = turnCrosswise();
                } else {
                    int part = goesWith[next];
                    int patternSize = signature.end(pattern, next) - next;
                    int partSize = signature.end(term, part) - part;
                    if (!tank.take(patternSize + partSize)) {
                        return NONE;
                    }
                    next = takePair(next, part, partSize) ? next + 1 : turnCrosswise();
                }
            }
            return count;
        }

        /** Where the term's part begins that a variable has in a match, or NONE. */
        int boundTo(int i, int variable) {
            int place = found[i] >> (BITS * variable) & MASK;
            return place == 0 ? NONE : start + place - 1;
        }

        private boolean takePair(int node, int part, int partSize) {
            int code = pattern[node];
            if (code < ALL_VARIABLES) {
                int mark = 1 + firstLike(part, partSize) - start;
                int old = bound >> (BITS * code) & MASK;
                bound |= old == 0 ? mark << (BITS * code) : 0;
                return old == 0 || old == mark;
            }
            if (code != term[part]) {
                return false;
            }
            if (signature.arityOf(code) > 0) {
                goesWith[node + 1] = part + 1;
            }
            if (signature.arityOf(code) > 1) {
                goesWith[signature.end(pattern, node + 1)] = signature.end(term, part + 1);
            }
            if (signature.isCommutative(code)) {
                choices[open] = node;
                choices[open + 1] = bound;
                open += 2;
            }
            return true;
        }

        private int firstLike(int part, int size) {
            for (int i = start; i < part; i++) {
                int same = 0;
                while (same < size && term[i + same] == term[part + same]) {
                    same++;
                }
                if (same == size) {
                    return i;
                }
            }
            return part;
        }

        private void keep() {
            for (int i = 0; i < count; i++) {
                if (found[i] == bound) {
                    return;
                }
            }
            if (count == found.length) {
                found = Arrays.copyOf(found, 2 * count);
            }
            found[count] = bound;
            count++;
        }

        /** The next node of the way that turns off last, or NONE if there is none. */
        private int turnCrosswise() {
            if (open == 0) {
                return NONE;
            }
            open -= 2;
            int node = choices[open];
            bound = choices[open + 1];
            int part = goesWith[node];
            goesWith[node + 1] = signature.end(term, part + 1);
            goesWith[signature.end(pattern, node + 1)] = part + 1;
            return node + 1;
        }
    }

    /** Rewriting by rules, within one row that always holds the whole term. */
    private static final class Reducer {
        private final Signature signature;
        private final Matcher matcher;
        private final int[] work = new int[MOST_NODES];
        private final Row made = new Row(MOST_NODES);
        private Couples rules = new Couples(0);
        private int length;
        private int rewritings;

        Reducer(Signature signature, Matcher matcher) {
            this.signature = signature;
            this.matcher = matcher;
        }

        /** The term reduced, or null if it can't be. */
        int[] normalForm(int[] term, Couples by) {
            if (term.length > MOST_NODES) {
                return null;
            }
            rules = by;
            length = term.length;
            rewritings = 0;
            System.arraycopy(term, 0, work, 0, length);
            if (!reduceAt(0, 0)) {
                return null;
            }
            return rewritings == 0 ? term : Arrays.copyOf(work, length);
        }

        private boolean reduceAt(int at, int depth) {
            if (depth > MOST_NODES) {
                return false;
            }
            for (int turn = 0; turn <= MOST_REWRITINGS; turn++) {
                int arity = signature.arityOf(work[at]);
                if (arity > 0 && !reduceAt(at + 1, depth + 1)) {
                    return false;
                }
                if (arity > 1 && !reduceAt(signature.end(work, at + 1), depth + 1)) {
                    return false;
                }
                int end = signature.end(work, at);
                signature.sort(work, at, end);
                int fitting = NONE;
                for (int i = 0; i < rules.count && fitting == NONE; i++) {
                    int[] left = rules.first[i];
                    if (left[0] == work[at] && left.length <= end - at) {
                        int found = matcher.findAll(left, work, at);
                        if (found == NONE) {
                            return false;
                        }
                        fitting = found > 0 ? i : NONE;
                    }
                }
                if (fitting == NONE) {
                    return true;
                }
                if (!rewrite(rules.second[fitting], at, end)) {
                    return false;
                }
            }
            return false;
        }

        /** Puts a right term with the bindings of the first match in a part's stead. */
        private boolean rewrite(int[] right, int at, int end) {
            made.length = 0;
            for (int i = 0; i < right.length; i++) {
                int from = right[i] < ALL_VARIABLES ? matcher.boundTo(0, right[i]) : NONE;
                if (from == NONE) {
                    made.add(right[i]);
                } else {
                    made.addAll(work, from, signature.end(work, from));
                }
            }
            rewritings++;
            int after = length - (end - at) + made.length;
            if (rewritings > MOST_REWRITINGS || after > MOST_NODES) {
                return false;
            }
            System.arraycopy(work, end, work, at + made.length, length - end);
            System.arraycopy(made.cells, 0, work, at, made.length);
            length = after;
            signature.sort(work, at, at + made.length);
            return true;
        }
    }

    /**
     * All unifiers of two terms. The terms that come up on a way lie one behind the other in one
     * row, and the pairs that wait are a chain through another one; both only grow on a way, so a
     * way that turns off needs no more than their lengths and the chain's beginning again.
     */
    private static final class Unification {
        private static final int GOES_ON = 0;
        private static final int FAILS = 1;
        private static final int STOPS = 2;
        private static final int ENDS = 3;
        private static final int BINDS = 4;
        private static final int CHOICE = 5 + ALL_VARIABLES;

        private final Signature signature;
        private final Tank tank;
        private final Row nodes = new Row(4 * MOST_NODES);
        private final Row waiting = new Row(MOST_NODES);
        private final Row choices = new Row(4 * CHOICE);
        private final Row found = new Row(2 * MOST_NODES);
        private final Row foundAt = new Row(2 * ALL_VARIABLES);
        private final int[] boundAt = new int[ALL_VARIABLES];
        private int next;
        /** What the pair that was just taken binds, and where its term begins. */
        private int variable;
        private int value;
        private int ways;
        private int count;

        Unification(Signature signature, Tank tank) {
            this.signature = signature;
            this.tank = tank;
        }

        /** How many, or TOO_MANY; the first term's variables count as so many higher. */
        int findAll(int[] a, int higher, int[] b, int at) {
            begin(a, higher, b, at);
            for (int turn = 0; turn < FAR; turn++) {
                int state = next == NONE ? ENDS : takePair();
                if (state == BINDS) {
                    state = bind();
                }
                if (state == STOPS) {
                    return TOO_MANY;
                }
                if (state != GOES_ON) {
                    if (state == ENDS) {
                        keep();
                    }
                    ways++;
                    if (count > MOST_UNIFIERS || ways > MOST_WAYS) {
                        return TOO_MANY;
                    }
                    if (!turnCrosswise()) {
                        return count;
                    }
                }
            }
            return TOO_MANY;
        }

        /** Adds part of a term, its variables so many higher, with a unifier's bindings put in. */
        void append(Row row, int[] term, int from, int to, int higher, int unifier) {
            for (int i = from; i < to; i++) {
                int code = term[i] < ALL_VARIABLES ? term[i] + higher : term[i];
                int at = NONE;
                if (code < ALL_VARIABLES) {
                    at = foundAt.cells[unifier * ALL_VARIABLES + code];
                }
                if (at == NONE) {
                    row.add(code);
                } else {
                    row.addAll(found.cells, at, signature.end(found.cells, at));
                }
            }
        }

        private void begin(int[] a, int higher, int[] b, int at) {
            nodes.length = 0;
            waiting.length = 0;
            choices.length = 0;
            found.length = 0;
            foundAt.length = 0;
            ways = 0;
            count = 0;
            next = NONE;
            Arrays.fill(boundAt, NONE);
            for (int i = 0; i < a.length; i++) {
                nodes.add(a[i] < ALL_VARIABLES ? a[i] + higher : a[i]);
            }
            nodes.addAll(b, at, signature.end(b, at));
            pushPair(0, a.length);
        }

        private void pushPair(int a, int b) {
            waiting.add(a);
            waiting.add(b);
            waiting.add(next);
            next = waiting.length - 3;
        }

        private int takePair() {
            int a = withBindings(waiting.cells[next]);
            int b = withBindings(waiting.cells[next + 1]);
            next = waiting.cells[next + 2];
            int aSize = signature.end(nodes.cells, a) - a;
            int bSize = signature.end(nodes.cells, b) - b;
            if (!tank.take(aSize + bSize)) {
                return STOPS;
            }
            if (haveSameNodes(nodes.cells, a, nodes.cells, b, aSize)) {
                return GOES_ON;
            }
            int f = nodes.cells[a];
            int g = nodes.cells[b];
            if (f < ALL_VARIABLES || g < ALL_VARIABLES) {
                boolean first = g >= ALL_VARIABLES || (f < ALL_VARIABLES && f > g);
                variable = first ? f : g;
                value = first ? b : a;
                return BINDS;
            }
            if (f != g) {
                return FAILS;
            }
            if (signature.isCommutative(f)) {
                rememberChoice(a, b);
            }
            if (signature.arityOf(f) > 1) {
                pushPair(signature.end(nodes.cells, a + 1), signature.end(nodes.cells, b + 1));
            }
            if (signature.arityOf(f) > 0) {
                pushPair(a + 1, b + 1);
            }
            return GOES_ON;
        }

        private int bind() {
            int end = signature.end(nodes.cells, value);
            for (int i = value; i < end; i++) {
                if (nodes.cells[i] == variable) {
                    return FAILS;
                }
            }
            boundAt[variable] = value;
            boolean fits = end - value <= MOST_NODES;
            for (int i = 0; i < ALL_VARIABLES && fits; i++) {
                if (boundAt[i] != NONE && i != variable) {
                    boundAt[i] = withBindings(boundAt[i]);
                    fits = signature.end(nodes.cells, boundAt[i]) - boundAt[i] <= MOST_NODES;
                }
            }
            return fits ? GOES_ON : STOPS;
        }

        /** Where the term that begins at a position stands with the bindings put in. */
        private int withBindings(int at) {
            int end = signature.end(nodes.cells, at);
            int unbound = at;
            while (unbound < end && !isBound(nodes.cells[unbound])) {
                unbound++;
            }
            if (unbound == end) {
                return at;
            }
            int start = nodes.length;
            for (int i = at; i < end; i++) {
                int code = nodes.cells[i];
                if (isBound(code)) {
                    int from = boundAt[code];
                    nodes.addAll(nodes.cells, from, signature.end(nodes.cells, from));
                } else {
                    nodes.add(code);
                }
            }
            signature.sort(nodes.cells, start, nodes.length);
            return start;
        }

        private boolean isBound(int code) {
            return code < ALL_VARIABLES && boundAt[code] != NONE;
        }

        private void rememberChoice(int a, int b) {
            choices.add(a);
            choices.add(b);
            choices.add(next);
            choices.add(waiting.length);
            choices.add(nodes.length);
            choices.addAll(boundAt, 0, ALL_VARIABLES);
        }

        /** Goes back to the way that turns off last; false if there is none. */
        private boolean turnCrosswise() {
            if (choices.length < CHOICE) {
                return false;
            }
            choices.length -= CHOICE;
            int at = choices.length;
            int a = choices.cells[at];
            int b = choices.cells[at + 1];
            next = choices.cells[at + 2];
            waiting.length = choices.cells[at + 3];
            nodes.length = choices.cells[at + 4];
            System.arraycopy(choices.cells, at + 5, boundAt, 0, ALL_VARIABLES);
            pushPair(signature.end(nodes.cells, a + 1), b + 1);
            pushPair(a + 1, signature.end(nodes.cells, b + 1));
            return true;
        }

        private void keep() {
            for (int i = 0; i < count; i++) {
                if (isLike(i)) {
                    return;
                }
            }
            for (int i = 0; i < ALL_VARIABLES; i++) {
                int at = boundAt[i];
                foundAt.add(at == NONE ? NONE : found.length);
                if (at != NONE) {
                    found.addAll(nodes.cells, at, signature.end(nodes.cells, at));
                }
            }
            count++;
        }

        private boolean isLike(int unifier) {
            for (int i = 0; i < ALL_VARIABLES; i++) {
                int at = boundAt[i];
                int old = foundAt.cells[unifier * ALL_VARIABLES + i];
                if (at == NONE || old == NONE) {
                    if (at != old) {
                        return false;
                    }
                } else {
                    int size = signature.end(nodes.cells, at) - at;
                    if (!haveSameNodes(nodes.cells, at, found.cells, old, size)) {
                        return false;
                    }
                }
            }
            return true;
        }
    }

    /**
     * The rules and the pairs that wait, and the steps from pairs to rules. A step is made on
     * drafts, which take the place of what there was only when nothing has met a limit.
     */
    private static final class Completion {
        private final Signature signature;
        private final PathOrder order;
        private final Matcher matcher;
        private final Reducer reducer;
        private final Unification unification;
        private final Renaming renaming;
        private final Row overlapped = new Row(MOST_NODES);
        private final Row other = new Row(MOST_NODES);
        /** The rules that stay, with their old right terms, and the new one. */
        private final Couples staying = new Couples(MOST_RULES);
        private Couples draftRules = new Couples(MOST_RULES);
        private Couples draftPairs = new Couples(MOST_PAIRS);
        Couples rules = new Couples(MOST_RULES);
        Couples pairs = new Couples(MOST_PAIRS);
        boolean limited;

        Completion(Signature signature, PathOrder order, Matcher matcher, Reducer reducer,
                   Unification unification, Renaming renaming) {
            this.signature = signature;
            this.order = order;
            this.matcher = matcher;
            this.reducer = reducer;
            this.unification = unification;
            this.renaming = renaming;
        }

        boolean canGoOn() {
            return !limited && pairs.count > 0;
        }

        int step() {
            int chosen = lightest();
            int[] first = reducer.normalForm(pairs.first[chosen], rules);
            int[] second = first == null ? null : reducer.normalForm(pairs.second[chosen], rules);
            if (first == null || second == null) {
                return limit();
            }
            draftPairsWithout(chosen);
            if (areSame(first, second)) {
                takeDraftPairs();
                return STEP_DONE;
            }
            boolean inOrder = order.isAbove(first, second);
            if (!inOrder && !order.isAbove(second, first)) {
                return STEP_STUCK;
            }
            int[] left = inOrder ? first : second;
            int[] right = inOrder ? second : first;
            if (!renaming.rename(left, left.length, right, right.length)) {
                return limit();
            }
            if (!partRules(renaming.first) || staying.count >= MOST_RULES) {
                return limit();
            }
            staying.add(renaming.first, renaming.second);
            if (!reduceRights()) {
                return limit();
            }
            int newest = draftRules.count - 1;
            for (int i = 0; i <= newest; i++) {
                if (!overlap(newest, i) || (i < newest && !overlap(i, newest))) {
                    return limit();
                }
            }
            if (draftPairs.count > MOST_PAIRS) {
                return limit();
            }
            takeDraftPairs();
            takeDraftRules();
            return STEP_DONE;
        }

        private int limit() {
            limited = true;
            return STEP_LIMIT;
        }

        private int lightest() {
            int best = 0;
            for (int i = 1; i < pairs.count; i++) {
                int weight = pairs.first[i].length + pairs.second[i].length;
                if (weight < pairs.first[best].length + pairs.second[best].length) {
                    best = i;
                }
            }
            return best;
        }

        private void draftPairsWithout(int chosen) {
            draftPairs.count = 0;
            for (int i = 0; i < pairs.count; i++) {
                if (i != chosen) {
                    draftPairs.add(pairs.first[i], pairs.second[i]);
                }
            }
        }

        private void takeDraftPairs() {
            Couples old = pairs;
            pairs = draftPairs;
            draftPairs = old;
        }

        private void takeDraftRules() {
            Couples old = rules;
            rules = draftRules;
            draftRules = old;
        }

        /** Parts the rules that stay from those that go; false if the fuel is out. */
        private boolean partRules(int[] left) {
            staying.count = 0;
            for (int i = 0; i < rules.count; i++) {
                int[] old = rules.first[i];
                int found = 0;
                for (int at = 0; at < old.length && found == 0; at++) {
                    if (old[at] == left[0] && signature.end(old, at) - at >= left.length) {
                        found = matcher.findAll(left, old, at);
                    }
                }
                if (found == NONE) {
                    return false;
                }
                Couples goal = found > 0 ? draftPairs : staying;
                goal.add(old, rules.second[i]);
            }
            return true;
        }

        private boolean reduceRights() {
            draftRules.count = 0;
            int last = staying.count - 1;
            for (int i = 0; i < last; i++) {
                int[] right = reducer.normalForm(staying.second[i], staying);
                if (right == null) {
                    return false;
                }
                draftRules.add(staying.first[i], right);
            }
            draftRules.add(staying.first[last], staying.second[last]);
            return true;
        }

        /** The critical pairs of a rule in another one; false if a limit is met. */
        private boolean overlap(int inner, int outer) {
            int[] left = draftRules.first[inner];
            int[] host = draftRules.first[outer];
            for (int at = 0; at < host.length; at++) {
                if (host[at] == left[0]) {
                    int found = unification.findAll(left, VARIABLES, host, at);
                    if (found == TOO_MANY) {
                        return false;
                    }
                    for (int i = 0; i < found; i++) {
                        if (!addCriticalPair(inner, outer, at, i)) {
                            return false;
                        }
                    }
                }
            }
            return true;
        }

        private boolean addCriticalPair(int inner, int outer, int at, int unifier) {
            int[] right = draftRules.second[inner];
            int[] host = draftRules.first[outer];
            int[] hostRight = draftRules.second[outer];
            int end = signature.end(host, at);
            overlapped.length = 0;
            unification.append(overlapped, host, 0, at, 0, unifier);
            unification.append(overlapped, right, 0, right.length, VARIABLES, unifier);
            unification.append(overlapped, host, end, host.length, 0, unifier);
            other.length = 0;
            unification.append(other, hostRight, 0, hostRight.length, 0, unifier);
            if (overlapped.length > MOST_NODES || other.length > MOST_NODES) {
                return false;
            }
            signature.sort(overlapped.cells, 0, overlapped.length);
            signature.sort(other.cells, 0, other.length);
            if (!renaming.rename(overlapped.cells, overlapped.length, other.cells, other.length)) {
                return false;
            }
            draftPairs.add(renaming.first, renaming.second);
            return true;
        }
    }
}
