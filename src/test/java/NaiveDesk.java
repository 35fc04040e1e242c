import java.util.ArrayList;
import java.util.HashMap;
import java.util.List;
import java.util.Map;

/**
 * The document once more, told as plainly as can be: terms are trees, everything is copied, and
 * what can't be done is thrown. It shares nothing with EquationDesk, and is its measure in tests.
 */
final class NaiveDesk {
    static final int NONE = -1;

    static final class OutOfFuel extends RuntimeException {
        private static final long serialVersionUID = 1;
    }

    static final class Limit extends RuntimeException {
        private static final long serialVersionUID = 1;

        Limit(String why) {
            super(why);
        }
    }

    static final class Stuck extends RuntimeException {
        private static final long serialVersionUID = 1;
    }

    /** A variable if symbol is NONE. */
    record Term(int symbol, int variable, List<Term> args) {
        boolean isVariable() {
            return symbol == NONE;
        }

        int nodes() {
            int sum = 1;
            for (Term t : args) {
                sum += t.nodes();
            }
            return sum;
        }

        boolean has(int v) {
            if (isVariable()) {
                return variable == v;
            }
            for (Term t : args) {
                if (t.has(v)) {
                    return true;
                }
            }
            return false;
        }

        void list(List<Term> into) {
            into.add(this);
            for (Term t : args) {
                t.list(into);
            }
        }
    }

    record Two(Term a, Term b) { }

    private final List<Integer> arities = new ArrayList<>();
    private final List<Boolean> commutes = new ArrayList<>();
    private final Term[] places = new Term[16];
    private List<Two> rules = new ArrayList<>();
    private List<Two> pairs = new ArrayList<>();
    int fuel = 120000;
    boolean out;
    boolean limited;
    int ways;
    int rewritings;
    /** What was met, and how often, over all desks: tells what a random test has reached. */
    static final Map<String, Integer> MET = new java.util.TreeMap<>();

    NaiveDesk() {
        java.util.Arrays.fill(places, var(0));
    }

    private static void met(String what) {
        MET.merge(what, 1, Integer::sum);
    }

    static Term var(int v) {
        return new Term(NONE, v, List.of());
    }

    int behind(Term a, Term b) {
        if (a.isVariable() || b.isVariable()) {
            if (a.isVariable() && b.isVariable()) {
                return Integer.compare(a.variable, b.variable);
            }
            return a.isVariable() ? -1 : 1;
        }
        if (a.symbol != b.symbol) {
            return Integer.compare(a.symbol, b.symbol);
        }
        for (int i = 0; i < a.args.size(); i++) {
            int c = behind(a.args.get(i), b.args.get(i));
            if (c != 0) {
                return c;
            }
        }
        return 0;
    }

    Term make(int symbol, List<Term> args) {
        if (commutes.get(symbol) && behind(args.get(0), args.get(1)) > 0) {
            return new Term(symbol, 0, List.of(args.get(1), args.get(0)));
        }
        return new Term(symbol, 0, List.copyOf(args));
    }

    Term with(Term t, Map<Integer, Term> bindings) {
        if (t.isVariable()) {
            return bindings.getOrDefault(t.variable, t);
        }
        List<Term> args = new ArrayList<>();
        for (Term s : t.args) {
            args.add(with(s, bindings));
        }
        return make(t.symbol, args);
    }

    boolean above(Term s, Term t) {
        if (t.isVariable()) {
            return !s.isVariable() && s.has(t.variable);
        }
        if (s.isVariable()) {
            return false;
        }
        for (Term a : s.args) {
            if (a.equals(t) || above(a, t)) {
                return true;
            }
        }
        if (s.symbol < t.symbol) {
            return false;
        }
        for (Term b : t.args) {
            if (!above(s, b)) {
                return false;
            }
        }
        if (s.symbol > t.symbol) {
            return true;
        }
        if (!commutes.get(s.symbol)) {
            for (int i = 0; i < s.args.size(); i++) {
                if (!s.args.get(i).equals(t.args.get(i))) {
                    return above(s.args.get(i), t.args.get(i));
                }
            }
            return false;
        }
        List<Term> left = new ArrayList<>(s.args);
        List<Term> right = new ArrayList<>();
        for (Term b : t.args) {
            if (!left.remove(b)) {
                right.add(b);
            }
        }
        for (Term b : right) {
            boolean less = false;
            for (Term a : left) {
                less |= above(a, b);
            }
            if (!less) {
                return false;
            }
        }
        return !left.isEmpty();
    }

    private void burn(int cost) {
        if (out || fuel < cost) {
            out = true;
            throw new OutOfFuel();
        }
        fuel -= cost;
    }

    private static List<Two> before(List<Two> first, List<Two> rest) {
        List<Two> all = new ArrayList<>(first);
        all.addAll(rest);
        return all;
    }

    private static List<Two> straight(Term a, Term b) {
        List<Two> all = new ArrayList<>();
        for (int i = 0; i < a.args.size(); i++) {
            all.add(new Two(a.args.get(i), b.args.get(i)));
        }
        return all;
    }

    private static List<Two> crosswise(Term a, Term b) {
        return List.of(new Two(a.args.get(0), b.args.get(1)), new Two(a.args.get(1), b.args.get(0)));
    }

    List<Map<Integer, Term>> allMatches(Term pattern, Term term) {
        List<Map<Integer, Term>> found = new ArrayList<>();
        match(List.of(new Two(pattern, term)), Map.of(), found);
        return found;
    }

    private void match(List<Two> waiting, Map<Integer, Term> bindings, List<Map<Integer, Term>> found) {
        if (waiting.isEmpty()) {
            if (!found.contains(bindings)) {
                found.add(bindings);
            }
            return;
        }
        Term p = waiting.get(0).a;
        Term t = waiting.get(0).b;
        List<Two> rest = waiting.subList(1, waiting.size());
        burn(p.nodes() + t.nodes());
        if (p.isVariable()) {
            Term old = bindings.get(p.variable);
            if (old == null) {
                Map<Integer, Term> more = new HashMap<>(bindings);
                more.put(p.variable, t);
                match(rest, more, found);
            } else if (old.equals(t)) {
                match(rest, bindings, found);
            }
        } else if (p.symbol == t.symbol) {
            match(before(straight(p, t), rest), bindings, found);
            if (commutes.get(p.symbol)) {
                match(before(crosswise(p, t), rest), bindings, found);
            }
        }
    }

    /** Throws Limit if they are too many, OutOfFuel if it is out. */
    List<Map<Integer, Term>> allUnifiers(Term a, Term b) {
        List<Map<Integer, Term>> found = new ArrayList<>();
        ways = 0;
        unify(List.of(new Two(a, b)), Map.of(), found);
        return found;
    }

    private void endWay() {
        ways++;
        if (ways > 1000) {
            throw new Limit("ways");
        }
    }

    private void unify(List<Two> waiting, Map<Integer, Term> bindings, List<Map<Integer, Term>> found) {
        if (waiting.isEmpty()) {
            if (!found.contains(bindings)) {
                found.add(bindings);
                if (found.size() > 32) {
                    throw new Limit("unifiers");
                }
            }
            endWay();
            return;
        }
        Term s = with(waiting.get(0).a, bindings);
        Term t = with(waiting.get(0).b, bindings);
        List<Two> rest = waiting.subList(1, waiting.size());
        burn(s.nodes() + t.nodes());
        if (s.equals(t)) {
            unify(rest, bindings, found);
        } else if (s.isVariable() || t.isVariable()) {
            boolean first = !t.isVariable() || (s.isVariable() && s.variable > t.variable);
            int v = first ? s.variable : t.variable;
            Term value = first ? t : s;
            if (value.has(v)) {
                endWay();
                return;
            }
            Map<Integer, Term> more = new HashMap<>();
            for (Map.Entry<Integer, Term> e : bindings.entrySet()) {
                more.put(e.getKey(), with(e.getValue(), Map.of(v, value)));
            }
            more.put(v, value);
            for (Term x : more.values()) {
                if (x.nodes() > 24) {
                    throw new Limit("binding");
                }
            }
            unify(rest, more, found);
        } else if (s.symbol != t.symbol) {
            endWay();
        } else {
            unify(before(straight(s, t), rest), bindings, found);
            if (commutes.get(s.symbol)) {
                unify(before(crosswise(s, t), rest), bindings, found);
            }
        }
    }

    Term reduced(Term t, List<Two> by) {
        rewritings = 0;
        return reduced(t, by, 0);
    }

    private Term reduced(Term t, List<Two> by, int outside) {
        if (t.isVariable()) {
            return t;
        }
        List<Term> args = new ArrayList<>(t.args);
        for (int i = 0; i < args.size(); i++) {
            int others = 1;
            for (int j = 0; j < args.size(); j++) {
                others += j == i ? 0 : args.get(j).nodes();
            }
            args.set(i, reduced(args.get(i), by, outside + others));
        }
        Term s = make(t.symbol, args);
        for (Two rule : by) {
            if (rule.a.symbol == s.symbol && rule.a.nodes() <= s.nodes()) {
                List<Map<Integer, Term>> found = allMatches(rule.a, s);
                if (!found.isEmpty()) {
                    Term next = with(rule.b, found.get(0));
                    rewritings++;
                    if (rewritings > 1000) {
                        throw new Limit("rewritings");
                    }
                    if (next.nodes() + outside > 24) {
                        throw new Limit("rewritten size");
                    }
                    return reduced(next, by, outside);
                }
            }
        }
        return s;
    }

    Two renamed(Term a, Term b) {
        Map<Integer, Term> names = new HashMap<>();
        List<Term> all = new ArrayList<>();
        a.list(all);
        b.list(all);
        for (Term t : all) {
            if (t.isVariable() && !names.containsKey(t.variable)) {
                names.put(t.variable, var(names.size()));
            }
        }
        if (names.size() > 6) {
            throw new Limit("variables");
        }
        return new Two(with(a, names), with(b, names));
    }

    private Term replaced(Term t, int node, Term by) {
        if (node == 0) {
            return by;
        }
        List<Term> args = new ArrayList<>();
        int at = 1;
        for (Term s : t.args) {
            int n = s.nodes();
            args.add(node >= at && node < at + n ? replaced(s, node - at, by) : s);
            at += n;
        }
        // Not sorted yet: this is done when the bindings are put in.
        return new Term(t.symbol, 0, args);
    }

    private Term higher(Term t) {
        Map<Integer, Term> names = new HashMap<>();
        for (int i = 0; i < 6; i++) {
            names.put(i, var(i + 6));
        }
        return with(t, names);
    }

    private List<Two> critical(Two p, Two q) {
        List<Two> result = new ArrayList<>();
        List<Term> nodes = new ArrayList<>();
        q.a.list(nodes);
        for (int i = 0; i < nodes.size(); i++) {
            if (nodes.get(i).symbol == p.a.symbol) {
                for (Map<Integer, Term> u : allUnifiers(higher(p.a), nodes.get(i))) {
                    Term a = with(replaced(q.a, i, higher(p.b)), u);
                    Term b = with(q.b, u);
                    if (a.nodes() > 24 || b.nodes() > 24) {
                        throw new Limit("critical size");
                    }
                    result.add(renamed(a, b));
                }
            }
        }
        return result;
    }

    private boolean goes(Two rule, Term left) {
        List<Term> nodes = new ArrayList<>();
        rule.a.list(nodes);
        for (Term t : nodes) {
            if (t.symbol == left.symbol && t.nodes() >= left.nodes() && !allMatches(left, t).isEmpty()) {
                return true;
            }
        }
        return false;
    }

    void step() {
        Two best = null;
        int at = 0;
        for (int i = 0; i < pairs.size(); i++) {
            Two two = pairs.get(i);
            if (best == null || two.a.nodes() + two.b.nodes() < best.a.nodes() + best.b.nodes()) {
                best = two;
                at = i;
            }
        }
        Term a = reduced(best.a, rules);
        Term b = reduced(best.b, rules);
        List<Two> nextPairs = new ArrayList<>(pairs);
        nextPairs.remove(at);
        if (a.equals(b)) {
            pairs = nextPairs;
            met("step same");
            return;
        }
        if (!above(a, b) && !above(b, a)) {
            throw new Stuck();
        }
        Two added = above(a, b) ? renamed(a, b) : renamed(b, a);
        List<Two> stay = new ArrayList<>();
        for (Two rule : rules) {
            (goes(rule, added.a) ? nextPairs : stay).add(rule);
        }
        stay.add(added);
        if (stay.size() > 16) {
            throw new Limit("rules");
        }
        List<Two> nextRules = new ArrayList<>();
        for (Two rule : stay) {
            nextRules.add(rule == added ? added : new Two(rule.a, reduced(rule.b, stay)));
        }
        for (Two r : nextRules) {
            nextPairs.addAll(critical(added, r));
            if (r != added) {
                nextPairs.addAll(critical(r, added));
            }
        }
        if (nextPairs.size() > 60) {
            throw new Limit("pairs");
        }
        met(stay.size() <= rules.size() ? "step rules went" : "step new rule");
        rules = nextRules;
        pairs = nextPairs;
    }

    static boolean place(int... all) {
        for (int p : all) {
            if (p < 0 || p > 15) {
                return false;
            }
        }
        return true;
    }

    int symbol(int arity, boolean commutative) {
        if (arities.size() == 10 || arity < 0 || arity > 2 || (commutative && arity != 2)) {
            return NONE;
        }
        arities.add(arity);
        commutes.add(commutative);
        return arities.size() - 1;
    }

    boolean variable(int place, int variable) {
        if (!place(place) || variable < 0 || variable > 5) {
            return false;
        }
        places[place] = var(variable);
        return true;
    }

    boolean term(int place, int symbol, int first, int second) {
        if (!place(place) || symbol < 0 || symbol >= arities.size()) {
            return false;
        }
        List<Term> args = new ArrayList<>();
        for (int i = 0; i < arities.get(symbol); i++) {
            int from = i == 0 ? first : second;
            if (!place(from)) {
                return false;
            }
            args.add(places[from]);
        }
        return put(place, make(symbol, args));
    }

    private boolean put(int place, Term t) {
        if (t.nodes() > 24) {
            return false;
        }
        places[place] = t;
        return true;
    }

    int size(int place) {
        return place(place) ? places[place].nodes() : NONE;
    }

    int node(int place, int node) {
        if (!place(place)) {
            return NONE;
        }
        List<Term> nodes = new ArrayList<>();
        places[place].list(nodes);
        if (node < 0 || node >= nodes.size()) {
            return NONE;
        }
        Term t = nodes.get(node);
        return t.isVariable() ? 100 + t.variable : t.symbol;
    }

    boolean same(int a, int b) {
        return place(a, b) && places[a].equals(places[b]);
    }

    boolean greater(int a, int b) {
        return place(a, b) && above(places[a], places[b]);
    }

    int matches(int pattern, int term) {
        if (!place(pattern, term)) {
            return NONE;
        }
        try {
            return allMatches(places[pattern], places[term]).size();
        } catch (OutOfFuel e) {
            met("matches fuel");
            return NONE;
        }
    }

    boolean match(int pattern, int term, int i, int variable, int to) {
        if (!place(pattern, term, to) || variable < 0 || variable > 5) {
            return false;
        }
        try {
            List<Map<Integer, Term>> found = allMatches(places[pattern], places[term]);
            if (i < 0 || i >= found.size() || !found.get(i).containsKey(variable)) {
                return false;
            }
            return put(to, found.get(i).get(variable));
        } catch (OutOfFuel e) {
            return false;
        }
    }

    int unifiers(int a, int b) {
        if (!place(a, b)) {
            return NONE;
        }
        try {
            return allUnifiers(places[a], places[b]).size();
        } catch (OutOfFuel | Limit e) {
            met("unifiers " + (e instanceof Limit ? e.getMessage() : "fuel"));
            return 33;
        }
    }

    boolean unifier(int a, int b, int i, int to) {
        if (!place(a, b, to)) {
            return false;
        }
        try {
            List<Map<Integer, Term>> found = allUnifiers(places[a], places[b]);
            return i >= 0 && i < found.size() && put(to, with(places[a], found.get(i)));
        } catch (OutOfFuel | Limit e) {
            return false;
        }
    }

    boolean equation(int a, int b) {
        if (!place(a, b) || pairs.size() == 60) {
            return false;
        }
        pairs.add(renamed(places[a], places[b]));
        return true;
    }

    int complete(int n) {
        int steps = n < 0 || n > 30 ? 0 : n;
        boolean stuck = false;
        for (int i = 0; i < steps && !limited && !stuck && !pairs.isEmpty(); i++) {
            try {
                step();
            } catch (OutOfFuel | Limit e) {
                limited = true;
                met("step " + (e instanceof Limit ? e.getMessage() : "fuel"));
            } catch (Stuck e) {
                stuck = true;
                met("step stuck");
            }
        }
        return limited ? 3 : stuck ? 2 : pairs.isEmpty() ? 1 : 0;
    }

    int rules() {
        return rules.size();
    }

    boolean rule(int i, boolean right, int to) {
        return fetch(rules, i, right, to);
    }

    int waiting() {
        return pairs.size();
    }

    boolean pair(int i, boolean second, int to) {
        return fetch(pairs, i, second, to);
    }

    private boolean fetch(List<Two> from, int i, boolean second, int to) {
        if (!place(to) || i < 0 || i >= from.size()) {
            return false;
        }
        places[to] = second ? from.get(i).b : from.get(i).a;
        return true;
    }

    boolean reduce(int place, int to) {
        if (!place(place, to)) {
            return false;
        }
        try {
            places[to] = reduced(places[place], rules);
            return true;
        } catch (OutOfFuel | Limit e) {
            met("reduce " + (e instanceof Limit ? e.getMessage() : "fuel"));
            return false;
        }
    }

    int prove(int a, int b) {
        if (!place(a, b)) {
            return NONE;
        }
        try {
            if (reduced(places[a], rules).equals(reduced(places[b], rules))) {
                met("prove 1");
                return 1;
            }
        } catch (OutOfFuel | Limit e) {
            return 2;
        }
        met(pairs.isEmpty() ? "prove 0" : "prove 2");
        return pairs.isEmpty() ? 0 : 2;
    }
}
