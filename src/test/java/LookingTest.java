import java.util.function.Consumer;

/**
 * How matches and unifiers are looked for: which pair is taken next, where the looking ends, and
 * that the pairs that are taken up to there cost FUEL, and nothing else does.
 */
public final class LookingTest {
    private static final int ALL = 120000;
    private static final String SYMBOLS = "c2! g2 a0 b0 d0 e0 f1";

    private LookingTest() { }

    public static void main(String[] args) {
        argumentsComeBeforeOthers();
        firstArgumentsFirst();
        endOfAWay();
        sortedWhenTaken();
        sortedBindings();
        boundWithBindingsPutIn();
        likeUnifiers();
        noCommonVariablesInMatches();
        endsAtALongBinding();
        endsAtThe33rdUnifier();
        endsAtThe1001stWay();
        the32ndAndTheLastWay();
        otherCallsTakeNothing();
        onlyPairsThatAreTakenCost();
        reducedAgain();
        firstSuchRule();
        Bench.finish("LookingTest");
    }

    private static int cost(Consumer<Bench> calls) {
        return ALL - Bench.fuel(() -> {
            Bench bench = new Bench(SYMBOLS);
            calls.accept(bench);
            return bench;
        });
    }

    private static void dueCost(String a, String b, int matching, int unifying) {
        Bench.due("FUEL of " + a + " matching " + b, cost(bench -> bench.matches(a, b)), matching);
        Bench.due("FUEL of " + a + " unified with " + b, cost(bench -> bench.unifiers(a, b)), unifying);
    }

    /** "the pairs of their arguments .. come before all others that wait" */
    private static void argumentsComeBeforeOthers() {
        // g, f with f, then b with f(a), not the second arguments a and d.
        dueCost("g(f(b),a)", "g(f(f(a)),d)", 4 + 5 + 2 + 3 + 1 + 2, 4 + 5 + 2 + 3 + 1 + 2);
        // All of the first argument, so that b and e are never taken.
        dueCost("g(g(a,d),b)", "g(g(a,b),e)", 5 + 5 + 3 + 3 + 2 + 2, 5 + 5 + 3 + 3 + 2 + 2);
        Bench bench = new Bench(SYMBOLS);
        Bench.due("x0 is bound in the first argument", bench.unifier("g(f(x1),x1)", "g(f(x0),f(a))", 0), "g(f(f(a)),f(a))");
    }

    /** "first with first and second with second": the first ones are taken first. */
    private static void firstArgumentsFirst() {
        dueCost("g(a,f(f(b)))", "g(b,f(f(a)))", 5 + 5 + 2, 5 + 5 + 2);
        dueCost("g(f(f(b)),a)", "g(f(f(a)),b)", 5 + 5 + 3 + 3 + 2 + 2 + 2, 5 + 5 + 3 + 3 + 2 + 2 + 2);
        // Crosswise too it is the pattern's first argument that comes first: b with b, b with f(b).
        dueCost("c(b,b)", "c(b,f(b))", 3 + 4 + (2 + 3) + 3, 3 + 4 + (2 + 3) + 3);
    }

    /** "that is gone through to its end, then, again from here": what waited waits again. */
    private static void endOfAWay() {
        // g; c; x0 with a, x1 with b, then d with e; x0 with b, x1 with a, then d with e again.
        dueCost("g(c(x0,x1),d)", "g(c(a,b),e)", 5 + 5 + 3 + 3 + 4 + 2 + 4 + 2, 5 + 5 + 3 + 3 + 4 + 2 + 4 + 2);
        // The way that fails at a and b ends there: the pair f(a), f(a) isn't taken on it.
        dueCost("g(c(a,x0),f(a))", "g(c(b,b),f(a))", 6 + 6 + 3 + 3 + 2 + 2 + 2 + 2, 6 + 6 + 3 + 3 + 2 + 2 + 2 + 2);
        Bench bench = new Bench(SYMBOLS);
        Bench.due("bindings are as they were from here", bench.match("g(x2,c(x0,x1))", "g(d,c(a,b))", 1), "x0=b x1=a x2=d");
    }

    /** "bindings are put into both of a pair when it is taken (both are sorted again)" */
    private static void sortedWhenTaken() {
        Bench bench = new Bench(SYMBOLS);
        // By x0 = f(b) c(x0,b) is c(b,f(b)): the first way binds x1 to b, not to f(b).
        String a = "g(x1,g(f(b),c(x1,x2)))";
        String b = "g(x3,g(x0,c(x0,b)))";
        Bench.due("the first", bench.unifier(a, b, 0), "g(b,g(f(b),c(b,f(b))))");
        Bench.due("the second", bench.unifier(a, b, 1), "g(f(b),g(f(b),c(b,f(b))))");
        Bench.due("both", bench.unifiers(a, b), 2);
        String both = "g(x0,c(x0,b))";
        Bench.due("sorted, they are the same", bench.unifiers(both, "g(f(a),c(b,f(a)))"), 1);
        Bench.due("both of a pair", bench.unifiers("g(g(x0,x1),c(x0,b))", "g(g(f(a),f(a)),c(x1,b))"), 1);
        // g 5 and 7, x0 with f(a) 3, c(b,f(a)) with itself 8.
        Bench.due("its FUEL", cost(one -> one.unifiers(both, "g(f(a),c(b,f(a)))")), 5 + 7 + 3 + 8);
    }

    /** The same of bindings: "put into all bindings that there are" */
    private static void sortedBindings() {
        Bench bench = new Bench(SYMBOLS);
        String a = "g(x0,x1)";
        Bench.due("x0 is sorted again", bench.unifier(a, "g(c(x1,b),f(a))", 0), "g(c(b,f(a)),f(a))");
        Bench.due("so that one like it is found", bench.unifiers("g(c(x0,x1),g(x2,x3))", "g(c(x2,x3),g(a,a))"), 1);
        Bench.due("put in twice", bench.unifier("g(x0,g(x1,x2))", "g(c(x1,x2),g(f(x2),d))", 0), "g(c(d,f(d)),g(f(d),d))");
    }

    /** "it is bound to the other one": as it is with the bindings put in. */
    private static void boundWithBindingsPutIn() {
        Bench bench = new Bench(SYMBOLS);
        Bench.due("the other one", bench.unifier("g(x0,x1)", "g(a,f(x0))", 0), "g(a,f(a))");
        Bench.due("the one with the greater number, by then", bench.unifier("g(x2,x2)", "g(x1,x0)", 0), "g(x0,x0)");
        Bench.due("it occurs in that by then", bench.unifiers("g(x0,x1)", "g(f(x1),x0)"), 0);
    }

    /** "unless one like it was found before", of unifiers "likewise" */
    private static void likeUnifiers() {
        Bench bench = new Bench(SYMBOLS);
        Bench.due("both ways alike", bench.unifiers("c(x0,x1)", "c(a,a)"), 1);
        Bench.due("x0 and x1 the other way round", bench.unifiers("c(x0,x1)", "c(x1,x0)"), 1);
        Bench.due("they bind other variables", bench.unifiers("c(x0,x1)", "c(x0,x2)"), 2);
        Bench.due("one of them", bench.unifier("g(x0,c(x1,x2))", "g(x0,c(x0,x3))", 0), "g(x0,c(x0,x2))");
        Bench.due("the other", bench.unifier("g(x0,c(x1,x2))", "g(x0,c(x0,x3))", 1), "g(x0,c(x0,x1))");
    }

    /** "(whose variables are just symbols)": a match puts nothing into the term. */
    private static void noCommonVariablesInMatches() {
        Bench bench = new Bench(SYMBOLS);
        Bench.due("f(x0)", bench.match("x0", "f(x0)", 0), "x0=f(x0)");
        Bench.due("in turn", bench.match("g(x0,x1)", "g(f(x1),f(x0))", 0), "x0=f(x1) x1=f(x0)");
        Bench.due("the term's isn't bound", bench.matches("g(x0,f(a))", "g(a,f(x0))"), 0);
        Bench.due("nor is it the same as what it is bound to", bench.matches("g(x0,x0)", "g(a,x0)"), 0);
        Bench.due("the same", bench.matches("g(x0,x0)", "g(x0,x0)"), 1);
    }

    /** "a binding of more than 24 nodes on the way": crosswise isn't gone through then. */
    private static void endsAtALongBinding() {
        String eleven = Bench.chain(11, "a");
        String b = "g(c(a," + eleven + "),g(x1,g(x1,x1)))";
        Bench.due("FUEL", cost(bench ->
            Bench.due("35 nodes", bench.unifiers("g(c(x0,x1),x2)", b), 33)), 5 + 19 + 3 + 13 + 2 + 12 + 1 + 35);
        // If it is x0, the first way ends with 5 nodes, and only the crosswise one has 35.
        String other = "g(c(a," + eleven + "),g(x0,g(x0,x0)))";
        Bench.due("FUEL of both ways", cost(bench ->
            Bench.due("35 nodes", bench.unifiers("g(c(x0,x1),x2)", other), 33)),
            5 + 19 + 3 + 13 + (2 + 12 + 1 + 5) + (12 + 2 + 1 + 35));
        // By what is put into older ones: x2 becomes g(x1,g(x1,x1)), then x1 eleven nodes.
        Bench.due("FUEL, put in", cost(bench ->
            Bench.due("35 nodes", bench.unifiers("g(x2,c(x0,x1))", "g(g(x1,g(x1,x1)),c(a," + eleven + "))"), 33)),
            5 + 19 + 1 + 5 + 3 + 13 + 2 + 12);
    }

    /** The FUEL that a NaiveDesk spends for the unifiers of two terms that are too many. */
    private static int naiveCost(String a, String b) {
        Bench bench = new Bench(SYMBOLS).put(0, a).put(1, b);
        NaiveDesk naive = new NaiveDesk();
        for (String symbol : SYMBOLS.split(" ")) {
            naive.symbol(symbol.charAt(1) - '0', symbol.endsWith("!"));
        }
        copy(bench.desk, 0, 0, naive, 0);
        copy(bench.desk, 1, 0, naive, 1);
        Bench.due("told naively", naive.unifiers(0, 1), 33);
        return ALL - naive.fuel;
    }

    /** Builds a term from a node on in a place, its arguments in those behind; the node behind it. */
    private static int copy(EquationDesk from, int place, int node, NaiveDesk naive, int to) {
        int code = from.node(place, node);
        int next = node + 1;
        if (code >= 100) {
            naive.variable(to, code - 100);
            return next;
        }
        int arity = SYMBOLS.split(" ")[code].charAt(1) - '0';
        int spare = Math.max(to, 1) + 1;
        for (int i = 0; i < arity; i++) {
            next = copy(from, place, next, naive, spare + i);
        }
        naive.term(to, code, spare, spare + 1);
        return next;
    }

    /**
     * The root's crosswise way comes last of all: if the looking ends before, it costs the same as
     * with a root that isn't commutative.
     */
    private static void dueEndBeforeTheRootTurns(String what, String a, String b, int due) {
        Bench.due(what + ", told naively", naiveCost("g(" + a + ")", "g(" + b + ")"), due);
        Bench.due(what, cost(bench -> Bench.due(what, bench.unifiers("g(" + a + ")", "g(" + b + ")"), 33)), due);
        Bench.due(what, cost(bench -> Bench.due(what, bench.unifiers("c(" + a + ")", "c(" + b + ")"), 33)), due);
        Bench.due(what, cost(bench -> Bench.due(what, bench.unifier("c(" + a + ")", "c(" + b + ")", 0), "none")), due);
    }

    /** "more than 32": at the 33rd, whatever ways are left. */
    private static void endsAtThe33rdUnifier() {
        dueEndBeforeTheRootTurns("33 unifiers", "c(x0,c(x1,x4)),c(c(x0,x3),c(x1,c(x5,b)))",
            "c(x0,c(x1,c(x2,e))),c(c(x0,x1),c(x3,c(x2,x5)))", 1152);
    }

    /** "more than 1000 ways, each of them .. gone to its end": at the end of the 1001st. */
    private static void endsAtThe1001stWay() {
        dueEndBeforeTheRootTurns("1001 ways", "c(c(x0,x0),c(x0,x4)),c(c(c(x0,x2),c(x0,b)),c(c(x0,x4),c(x0,x4)))",
            "c(c(x1,x1),c(x4,x4)),c(c(c(x1,x3),c(x1,x5)),c(c(x1,x5),c(x3,x4)))", 14218);
    }

    /** Those that are just not too many are all looked for, whichever one is asked for. */
    private static void the32ndAndTheLastWay() {
        String a = "c(c(c(x0,x1),c(x2,x3)),c(x4,x5))";
        String b = "c(c(c(a,b),c(d,e)),c(f(a),f(b)))";
        int all = cost(bench -> Bench.due("unifiers", bench.unifiers(a, b), 16));
        int[] numbers = {0, 1, 15, 16, -1};
        for (int i : numbers) {
            Bench.due("FUEL of unifier " + i, cost(bench ->
                Bench.due("unifier " + i, bench.unifier(a, b, i).equals("none"), i < 0 || i > 15)), all);
        }
    }

    /** "Each pair that is taken, of matches or unifiers, costs": no other call has such a pair. */
    private static void otherCallsTakeNothing() {
        Bench.due("FUEL of other calls", cost(bench -> {
            EquationDesk desk = bench.desk;
            bench.put(0, Bench.chain(24, "x0")).put(1, Bench.chain(23, "x0")).put(2, "x0");
            for (int i = 0; i < 5; i++) {
                Bench.due("greater", desk.greater(0, 1), true);
                Bench.due("same", desk.same(0, 1), false);
                Bench.due("size", desk.size(0), 24);
                Bench.due("node", desk.node(0, 23), 100);
                Bench.due("variable", desk.variable(3, 1), true);
                Bench.due("term", desk.term(4, 6, 1, 0), true);
                Bench.due("reduce without rules", desk.reduce(0, 5), true);
                Bench.due("prove without rules", desk.prove(0, 1), i == 0 ? 0 : 2);
                Bench.due("equation", desk.equation(2, 2), true);
                Bench.due("equation", desk.equation(0, 0), true);
                Bench.due("complete(0)", desk.complete(0), 0);
                Bench.due("a step of the same", desk.complete(1), 0);
                Bench.due("pair", desk.pair(0, true, 6), true);
                Bench.due("rule", desk.rule(0, true, 6), false);
                Bench.due("rules", desk.rules(), 0);
                Bench.due("waiting", desk.waiting(), i + 1);
                Bench.due("symbol", desk.symbol(1, false), i < 3 ? 7 + i : -1);
            }
            Bench.due("steps of the same", desk.complete(30), 1);
            bench.equation("g(x0,x1)", "g(x1,x0)");
            Bench.due("a step without an order", desk.complete(1), 2);
        }), 0);
    }

    /** A step's FUEL is that of the pairs of its matches and unifiers, and of nothing more. */
    private static void onlyPairsThatAreTakenCost() {
        // f(x0) with itself, 4 and 2.
        Bench.due("a first rule", cost(bench -> {
            bench.equation("f(x0)", "a");
            Bench.due("complete(1)", bench.desk.complete(1), 0);
        }), 4 + 2);
        // Its own pair a = a goes without any.
        Bench.due("and its pair", cost(bench -> {
            bench.equation("f(x0)", "a");
            Bench.due("complete(30)", bench.desk.complete(30), 1);
        }), 4 + 2);
        // f(b) with the rule, 4 and 2, becomes a; then b is a rule, b with b.
        Bench.due("a second rule", cost(bench -> {
            bench.equation("f(x0)", "a");
            bench.equation("f(d)", "b");
            Bench.due("complete(30)", bench.desk.complete(30), 1);
            Bench.due("rules", bench.rules(), "f(x0) -> a; b -> a");
        }), 4 + 2 + 4 + 2 + 2);
        // 4 and 2 for each f that is reduced, the inner one first; a is reduced again for nothing.
        Bench.due("reduce", cost(bench -> {
            bench.equation("f(x0)", "a");
            Bench.due("complete(30)", bench.desk.complete(30), 1);
            Bench.due("reduced", bench.reduced("f(f(b))"), "a");
        }), 4 + 2 + (4 + 2) + (4 + 2));
    }

    /** "the right one with the bindings .., reduced": what was reduced before is looked at again. */
    private static void reducedAgain() {
        Consumer<Bench> rules = bench -> {
            bench.equation("f(x0)", "g(x0,x0)");
            bench.equation("g(b,x0)", "b");
            Bench.due("complete(30)", bench.desk.complete(30), 1);
            Bench.due("rules", bench.rules(), "g(b,x0) -> b; f(x0) -> g(x0,x0)");
        };
        int before = cost(rules);
        // g(a,a) with g(b,x0) 6 and 2, as an argument, then twice more in g(g(a,a),g(a,a)), which costs 10 and 4.
        Bench.due("FUEL", cost(bench -> {
            rules.accept(bench);
            Bench.due("reduced", bench.reduced("f(g(a,a))"), "g(g(a,a),g(a,a))");
        }) - before, 8 + (6 + 4) + 8 + 8 + (10 + 4));
    }

    /** "rule by rule, all matches of each": up to the first rule that has one. */
    private static void firstSuchRule() {
        Consumer<Bench> rules = bench -> {
            bench.equation("c(x0,a)", "a");
            bench.equation("c(x0,f(x1))", "a");
            Bench.due("complete(30)", bench.desk.complete(30), 1);
            Bench.due("rules", bench.rules(), "c(x0,a) -> a; c(x0,f(x1)) -> a");
        };
        int before = cost(rules);
        // c 3 and 4, x0 with a 2, a with f(b) 3; crosswise x0 with f(b) 3, a with a 2.
        Bench.due("FUEL of the first", cost(bench -> {
            rules.accept(bench);
            Bench.due("reduced", bench.reduced("c(a,f(b))"), "a");
        }) - before, 7 + 2 + 3 + 3 + 2);
        // The same with b, but that a with b fails; then c 4 and 4, x0 with b 2, f 2 and 2, x1 with b 2; x0 with f(b) 3, f(x1) with b 3.
        Bench.due("FUEL of the second", cost(bench -> {
            rules.accept(bench);
            Bench.due("reduced", bench.reduced("c(b,f(b))"), "a");
        }) - before, (7 + 2 + 3 + 3 + 2) + (8 + 2 + 4 + 2 + 3 + 3));
    }
}
