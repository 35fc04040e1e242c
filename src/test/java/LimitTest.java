import java.util.function.Supplier;

/**
 * LIMIT: for each thing that it names, a step that just comes within it and is done, and one that
 * is just beyond it and is not done at all; and what is done without FUEL.
 */
public final class LimitTest {
    private static final int ALL = 120000;
    private static final String FIVE = "g(a,g(a,a))";
    private static final String ELEVEN = "g(" + FIVE + "," + FIVE + ")";

    private LimitTest() { }

    public static void main(String[] args) {
        reducedTerms();
        shorterAtTheEnd();
        firstTermsOfCriticalPairs();
        secondTermsOfCriticalPairs();
        rightTerms();
        variablesOfPairs();
        sixteenRules();
        ruleInAnothersStead();
        rulesInOthersStead();
        seventeenthIsKnownWhenOthersGo();
        sixtyPairs();
        sixtyPairsWithRulesThatGo();
        sixtyIsAskedAtTheEnd();
        unifiersOfTwoTerms();
        waysOfTwoTerms();
        bindingsOnTheWay();
        rewritings();
        rewritingsOfRightTerms();
        fuelOfCriticalPairs();
        fuelOfReducedTerms();
        fuelOfRulesThatGo();
        fuelOfRightTerms();
        pairsWithoutFuel();
        callsAfterALimit();
        refusedCallsMeetNoLimit();
        Bench.finish("LimitTest");
    }

    private static Bench completed(String symbols, String... sides) {
        Bench bench = new Bench(symbols);
        for (int i = 0; i < sides.length; i += 2) {
            bench.equation(sides[i], sides[i + 1]);
        }
        for (int i = 0; i < 4 && bench.desk.complete(30) == 0; i++) {
            Bench.due("it goes on", bench.desk.rules() > 0, true);
        }
        Bench.due("complete", bench.desk.complete(0), 1);
        return bench;
    }

    /** "is not done at all (the pair waits on), and no further one ever" */
    private static void dueLimit(String what, Bench bench) {
        bench.mark();
        Bench.due(what, bench.desk.complete(1), 3);
        bench.dueAsMarked(what);
        dueNoFurther(what, bench);
    }

    private static void dueNoFurther(String what, Bench bench) {
        int rules = bench.desk.rules();
        int waiting = bench.desk.waiting();
        bench.desk.variable(3, 1);
        boolean room = bench.desk.equation(3, 3);
        Bench.due(what + ": another pair", room, waiting < 60);
        int[] all = {30, 1, 0, -1, 31};
        for (int n : all) {
            Bench.due(what + ": complete(" + n + ")", bench.desk.complete(n), 3);
        }
        Bench.due(what + ": rules()", bench.desk.rules(), rules);
        Bench.due(what + ": waiting()", bench.desk.waiting(), waiting + (room ? 1 : 0));
    }

    private static void dueDone(String what, Bench bench, int answer, String lastRule) {
        Bench.due(what, bench.desk.complete(1), answer);
        Bench.due(what + ": its rule", bench.rule(bench.desk.rules() - 1), lastRule);
    }

    private static Bench twice() {
        return completed("a0 h1 g2 f1 k1", "f(x0)", "g(x0,x0)", "k(x0)", "a");
    }

    /** "a term that is reduced, as a whole, has more than 24 nodes after a rewriting" */
    private static void reducedTerms() {
        String long24 = "h(g(" + ELEVEN + "," + ELEVEN + "))";
        for (int side = 0; side < 2; side++) {
            Bench bench = twice();
            String within = "h(f(" + ELEVEN + "))";
            bench.equation(side == 0 ? within : "a", side == 0 ? "a" : within);
            dueDone("24 nodes", bench, 0, long24 + " -> a");
            bench = twice();
            String beyond = "h(h(f(" + ELEVEN + ")))";
            bench.equation(side == 0 ? beyond : "a", side == 0 ? "a" : beyond);
            dueLimit("25 nodes", bench);
        }
    }

    /** The same "after a rewriting", though it would become shorter later. */
    private static void shorterAtTheEnd() {
        Bench bench = twice();
        bench.equation("k(f(" + ELEVEN + "))", "a");
        Bench.due("24 nodes, then 1", bench.desk.complete(1), 1);
        Bench.due("no rule comes", bench.desk.rules(), 2);
        bench = twice();
        bench.equation("k(h(f(" + ELEVEN + ")))", "a");
        dueLimit("25 nodes, then 1", bench);
    }

    /** "or a critical pair a term of more": the first, with the right term put in. */
    private static void firstTermsOfCriticalPairs() {
        for (int length = 22; length <= 23; length++) {
            Bench bench = completed("a0 h1 g2 f1", "f(g(x0,x1))", "a");
            String right = "h(".repeat(length) + "x0" + ")".repeat(length);
            bench.equation("g(a,x0)", right);
            if (length == 22) {
                dueDone("24 nodes", bench, 0, "g(a,x0) -> " + right);
                Bench.due("the pair", bench.pair(0), "f(" + right + ") = a");
            } else {
                dueLimit("25 nodes", bench);
            }
        }
    }

    /** The same of the second, the right term with the bindings put in. */
    private static void secondTermsOfCriticalPairs() {
        String seven = "h(h(h(h(h(h(a))))))";
        String three = "g(" + seven + ",g(" + seven + "," + seven + "))";
        Bench bench = completed("a0 h1 g2 f1", "f(g(x0,x1))", "h(g(x0,g(x0,x0)))");
        bench.equation("g(" + seven + ",x0)", "a");
        dueDone("24 nodes", bench, 0, "g(" + seven + ",x0) -> a");
        Bench.due("the pair", bench.pair(0), "f(a) = h(" + three + ")");
        bench = completed("a0 h1 g2 f1", "f(g(x0,x1))", "h(h(g(x0,g(x0,x0))))");
        bench.equation("g(" + seven + ",x0)", "a");
        dueLimit("25 nodes", bench);
    }

    /** The same of "a term that is reduced", the right term of a rule that stays. */
    private static void rightTerms() {
        Bench bench = completed("a0 h1 g2 f1 j0", "j", "h(f(" + ELEVEN + "))");
        bench.equation("f(x0)", "g(x0,x0)");
        dueDone("24 nodes", bench, 0, "f(x0) -> g(x0,x0)");
        Bench.due("the other", bench.rule(0), "j -> h(g(" + ELEVEN + "," + ELEVEN + "))");
        bench = completed("a0 h1 g2 f1 j0", "j", "h(h(f(" + ELEVEN + ")))");
        bench.equation("f(x0)", "g(x0,x0)");
        dueLimit("25 nodes", bench);
    }

    /** "that makes a pair or rule with more than 6 variables": 3 of each rule, or 3 and 4. */
    private static void variablesOfPairs() {
        Bench bench = completed("a0 k2 g2 f1", "f(g(x0,g(x1,g(x2,x3))))", "g(x0,g(x1,g(x2,x3)))");
        bench.equation("g(k(x0,k(x1,x2)),x3)", "k(x0,k(x1,k(x2,x3)))");
        dueDone("6 variables", bench, 0, "g(k(x0,k(x1,x2)),x3) -> k(x0,k(x1,k(x2,x3)))");
        Bench.due("the pair", bench.pair(0),
            "f(k(x0,k(x1,k(x2,g(x3,g(x4,x5)))))) = g(k(x0,k(x1,x2)),g(x3,g(x4,x5)))");
        bench = completed("a0 k2 g2 f1", "f(g(x0,g(x1,g(x2,x3))))", "g(x0,g(x1,g(x2,x3)))");
        bench.equation("g(k(x0,k(x1,k(x2,x3))),x4)", "k(x0,k(x1,k(x2,k(x3,x4))))");
        dueLimit("7 variables", bench);
        bench = new Bench("a0 k2 g2");
        bench.equation("g(g(x0,x1),g(x2,g(x3,g(x4,x5))))", "a");
        Bench.due("a rule of 6", bench.desk.complete(1), 0);
        Bench.due("it", bench.rule(0), "g(g(x0,x1),g(x2,g(x3,g(x4,x5)))) -> a");
    }

    /** So many rules g(y,z) -> a of four letters, at most 16. */
    private static Bench rules(int many) {
        String letters = "bdei";
        String[] sides = new String[2 * many];
        for (int i = 0; i < many; i++) {
            sides[2 * i] = "g(" + letters.charAt(i / 4) + "," + letters.charAt(i % 4) + ")";
            sides[2 * i + 1] = "a";
        }
        Bench bench = completed("a0 b0 d0 e0 i0 f1 g2", sides);
        Bench.due("rules()", bench.desk.rules(), many);
        return bench;
    }

    /** "a seventeenth rule" */
    private static void sixteenRules() {
        Bench bench = rules(15);
        bench.equation("f(x0)", "a");
        dueDone("a sixteenth", bench, 0, "f(x0) -> a");
        Bench.due("rules()", bench.desk.rules(), 16);
        bench = rules(16);
        bench.equation("f(x0)", "a");
        Bench.due("a seventeenth", bench.desk.complete(1), 3);
        Bench.due("rules()", bench.desk.rules(), 16);
        Bench.due("the last", bench.rule(15), "g(i,i) -> a");
        Bench.due("pairs", bench.pairs(), "f(x0) = a");
        dueNoFurther("a seventeenth", bench);
    }

    /** "(known when it is known which ones go)": one goes, and there are sixteen still. */
    private static void ruleInAnothersStead() {
        Bench bench = completed("i0 a0 f1 h1 g2", "h(f(f(x0)))", "a");
        String letters = "ia";
        for (int i = 0; i < 15; i++) {
            StringBuilder word = new StringBuilder(String.valueOf(letters.charAt(i & 1)));
            for (int bit = 1; bit < 4; bit++) {
                word.insert(0, "g(" + letters.charAt(i >> bit & 1) + ",").append(')');
            }
            bench.equation(word.toString(), "i");
        }
        Bench.due("15 rules, and their own pairs go", bench.desk.complete(30), 1);
        Bench.due("rules()", bench.desk.rules(), 16);
        bench.equation("f(f(x0))", "a");
        dueDone("one goes", bench, 0, "f(f(x0)) -> a");
        Bench.due("rules()", bench.desk.rules(), 16);
        Bench.due("it waits", bench.pair(0), "h(f(f(x0))) = a");
    }

    /** The same of four that go. */
    private static void rulesInOthersStead() {
        Bench bench = rules(16);
        bench.equation("g(x0,d)", "a");
        dueDone("four go", bench, 0, "g(x0,d) -> a");
        Bench.due("rules()", bench.desk.rules(), 13);
        Bench.due("waiting()", bench.desk.waiting(), 5);
        Bench.due("first of them", bench.pair(0), "g(b,d) = a");
        Bench.due("last of them", bench.pair(3), "g(i,d) = a");
        Bench.due("its own", bench.pair(4), "a = a");
    }

    /**
     * The same by its FUEL: g(a,x0) costs 8 with each rule when it is reduced, 8 with each when it
     * is looked for which ones go; critical pairs, which would cost more, aren't looked for.
     */
    private static void seventeenthIsKnownWhenOthersGo() {
        Supplier<Bench> sixteen = () -> rules(16);
        int before = Bench.fuel(sixteen);
        int after = Bench.fuel(() -> {
            Bench bench = rules(16);
            bench.equation("g(a,x0)", "a");
            Bench.due("a seventeenth", bench.desk.complete(1), 3);
            return bench;
        });
        Bench.due("cost of a seventeenth", before - after, 16 * 8 + 16 * 8);
    }

    private static Bench heavy(int many, Bench bench) {
        bench.put(0, "h(h(h(a)))").put(1, "h(h(h(x0)))");
        for (int i = 0; i < many; i++) {
            Bench.due("equation", bench.desk.equation(0, 1), true);
        }
        return bench;
    }

    /** "more than 60 pairs (at its end)": two come, and one goes. */
    private static void sixtyPairs() {
        Bench bench = heavy(58, new Bench("a0 h1 c2! f1"));
        bench.equation("c(x0,x1)", "a");
        dueDone("60 pairs", bench, 0, "c(x0,x1) -> a");
        Bench.due("waiting()", bench.desk.waiting(), 60);
        Bench.due("the last", bench.pair(59), "a = a");
        bench = heavy(59, new Bench("a0 h1 c2! f1"));
        bench.equation("c(x0,x1)", "a");
        Bench.due("61 pairs", bench.desk.complete(1), 3);
        Bench.due("rules()", bench.desk.rules(), 0);
        Bench.due("waiting()", bench.desk.waiting(), 60);
        Bench.due("the first", bench.pair(0), "h(h(h(a))) = h(h(h(x0)))");
        Bench.due("the last", bench.pair(59), "c(x0,x1) = a");
        dueNoFurther("61 pairs", bench);
    }

    /** The same with a rule that goes, and one critical pair. */
    private static void sixtyPairsWithRulesThatGo() {
        Bench bench = heavy(58, completed("a0 h1 c2! f1", "f(a)", "a", "f(f(x0))", "a"));
        bench.equation("f(x0)", "a");
        dueLimit61(bench, 58);
        bench = heavy(57, completed("a0 h1 c2! f1", "f(a)", "a", "f(f(x0))", "a"));
        bench.equation("f(x0)", "a");
        Bench.due("60 pairs", bench.desk.complete(1), 0);
        Bench.due("waiting()", bench.desk.waiting(), 60);
        Bench.due("rules", bench.rules(), "f(x0) -> a");
        Bench.due("the rules that went", bench.pair(57) + "; " + bench.pair(58), "f(a) = a; f(f(x0)) = a");
        Bench.due("its own", bench.pair(59), "a = a");
    }

    private static void dueLimit61(Bench bench, int heavy) {
        Bench.due("61 pairs", bench.desk.complete(1), 3);
        Bench.due("waiting()", bench.desk.waiting(), heavy + 1);
        Bench.due("rules", bench.rules(), "f(a) -> a; f(f(x0)) -> a");
        Bench.due("the last", bench.pair(heavy), "f(x0) = a");
        dueNoFurther("61 pairs", bench);
    }

    /** "(at its end)": all critical pairs were looked for, 6 and twice 2 + 2. */
    private static void sixtyIsAskedAtTheEnd() {
        Supplier<Bench> made = () -> {
            Bench bench = heavy(59, new Bench("a0 h1 c2! f1"));
            bench.equation("c(x0,x1)", "a");
            return bench;
        };
        int after = Bench.fuel(() -> {
            Bench bench = made.get();
            Bench.due("61 pairs", bench.desk.complete(1), 3);
            return bench;
        });
        Bench.due("cost of 61 pairs", ALL - after, 14);
    }

    /** "too many unifiers of two terms (more than 32": of a left term and itself. */
    private static void unifiersOfTwoTerms() {
        String symbols = "c2! a0 b0 d0 e0 g0 h1";
        String left = "h(c(c(x0,c(x1,x2)),c(c(x0,x3),c(x3,c(b,d)))))";
        Bench bench = new Bench(symbols);
        bench.equation(left, "a");
        dueDone("32 unifiers", bench, 0, left + " -> a");
        Bench.due("waiting()", bench.desk.waiting(), 32);
        bench = new Bench(symbols);
        bench.equation("h(c(c(x0,c(c(x1,d),c(x2,d))),c(x3,c(x4,c(x4,x5)))))", "a");
        dueLimit("33 unifiers", bench);
    }

    /** "or more than 1000 ways": of a left term and itself, with 11 and 32 unifiers. */
    private static void waysOfTwoTerms() {
        String left = "h(c(c(c(x0,x0),c(x1,x1)),c(c(x0,c(x1,x1)),c(x0,c(x2,c(x3,x3))))))";
        Bench bench = new Bench("c2! a0 h1");
        bench.equation(left, "a");
        dueDone("1000 ways", bench, 0, left + " -> a");
        Bench.due("waiting()", bench.desk.waiting(), 11);
        bench = new Bench("c2! a0 h1");
        bench.equation("h(c(c(x0,c(x0,c(x1,c(x2,a)))),c(c(x0,c(x1,c(x3,x3))),c(x4,x4))))", "a");
        dueLimit("1001 ways", bench);
    }

    /** "or a binding of more than 24 nodes on the way": x0 of the first rule, 4 or 5 and 20. */
    private static void bindingsOnTheWay() {
        String five = "h(h(h(h(b))))";
        for (int more = 4; more <= 5; more++) {
            Bench bench = completed("a0 b0 h1 k2 g2 f1", "f(g(x0,g(k(x1,x1),x1)))", "a");
            String left = "g(" + (more == 4 ? "h(g(x0,x0))" : "h(h(g(x0,x0)))") + ",g(x0," + five + "))";
            bench.equation(left, "a");
            if (more == 4) {
                dueDone("24 nodes", bench, 0, left + " -> a");
                Bench.due("the pair", bench.pair(0), "f(a) = a");
            } else {
                dueLimit("25 nodes", bench);
            }
        }
    }

    private static String power(String letters, String last) {
        StringBuilder text = new StringBuilder(last);
        for (int i = letters.length() - 1; i >= 0; i--) {
            text.insert(0, "g(" + letters.charAt(i) + ",").append(')');
        }
        return text.toString();
    }

    /**
     * g(y,q(a)) becomes q(a) by 2, 6, 14, 44, 134, 404 rewritings for y = a, b, d, e, i, j: p(a)
     * stands inside for what becomes q(a), so that no right term can be reduced by itself.
     */
    private static Bench counter(String symbols) {
        return completed(symbols, "p(a)", "q(a)", "g(a,q(x0))", "p(x0)",
            "g(b,q(x0))", power("aa", "p(x0)"), "g(d,q(x0))", power("bb", "p(x0)"),
            "g(e,q(x0))", power("ddd", "p(x0)"), "g(i,q(x0))", power("eee", "p(x0)"),
            "g(j,q(x0))", power("iii", "p(x0)"));
    }

    /** "or reduces a term by more than 1000 rewritings": each of a pair's terms may have 1000. */
    private static void rewritings() {
        String thousand = power("jjied", "q(a)");
        String oneMore = power("jjied", "p(a)");
        for (int side = 0; side < 2; side++) {
            Bench bench = counter("a0 b0 d0 e0 i0 j0 q1 p1 g2 f1");
            bench.equation(side == 0 ? thousand : "a", side == 0 ? "a" : thousand);
            dueDone("1000 rewritings", bench, 0, "q(a) -> a");
            bench = counter("a0 b0 d0 e0 i0 j0 q1 p1 g2 f1");
            bench.equation(side == 0 ? oneMore : "a", side == 0 ? "a" : oneMore);
            Bench.due("1001 rewritings", bench.desk.complete(1), 3);
            Bench.due("rules()", bench.desk.rules(), 7);
            Bench.due("the pair", bench.pair(0), side == 0 ? oneMore + " = a" : "a = " + oneMore);
            dueNoFurther("1001 rewritings", bench);
        }
        Bench bench = counter("a0 b0 d0 e0 i0 j0 q1 p1 g2 f1");
        bench.put(0, oneMore).put(1, "f(x2)").put(2, thousand);
        Bench.due("reduce: 1001 rewritings", bench.desk.reduce(0, 1), false);
        Bench.due("reduce: in its own place", bench.desk.reduce(0, 0), false);
        Bench.due("the place stays", bench.show(1), "f(x2)");
        Bench.due("its own stays", bench.show(0), oneMore);
        Bench.due("that meets no LIMIT", bench.desk.complete(1), 1);
        bench = counter("a0 b0 d0 e0 i0 j0 q1 p1 g2 f1");
        bench.put(2, thousand);
        Bench.due("reduce: 1000 rewritings", bench.desk.reduce(2, 1), true);
        Bench.due("it", bench.show(1), "q(a)");
    }

    /** The same of a right term, which can be reduced when m can: m, p(a) and 998, or m and 1000. */
    private static void rewritingsOfRightTerms() {
        for (int more = 0; more < 2; more++) {
            String right = more == 0 ? power("jjiebb", "p(m)") : power("jjied", "m");
            Bench bench = counter("a0 b0 d0 e0 i0 j0 q1 p1 m0 g2");
            bench.equation("g(g(a,a),a)", right);
            Bench.due("complete(30)", bench.desk.complete(30), 1);
            Bench.due("the rule", bench.rule(7), "g(g(a,a),a) -> " + right);
            bench.equation("m", more == 0 ? "a" : "q(a)");
            if (more == 0) {
                dueDone("1000 rewritings", bench, 0, "m -> a");
                Bench.due("the rule", bench.rule(7), "g(g(a,a),a) -> q(a)");
            } else {
                Bench.due("1001 rewritings", bench.desk.complete(1), 3);
                Bench.due("the rule", bench.rule(7), "g(g(a,a),a) -> " + right);
                Bench.due("rules()", bench.desk.rules(), 8);
                Bench.due("pairs", bench.pairs(), "m = q(a)");
                dueNoFurther("1001 rewritings", bench);
            }
        }
    }

    private static Bench left(Supplier<Bench> made, int fuel) {
        int all = Bench.fuel(made);
        Bench bench = made.get();
        Bench.due("but for " + fuel, bench.spend(all - fuel), true);
        return bench;
    }

    /** "or has no FUEL": f(x0) with itself costs 6. */
    private static void fuelOfCriticalPairs() {
        Supplier<Bench> made = () -> {
            Bench bench = new Bench("a0 b0 f1");
            bench.equation("f(x0)", "a");
            return bench;
        };
        dueDone("6 of 6", left(made, 6), 0, "f(x0) -> a");
        dueLimit("6 of 5", left(made, 5));
    }

    /** The same of reduced terms: f(b) costs 6, and becomes a, as the other one is. */
    private static void fuelOfReducedTerms() {
        for (int way = 0; way < 2; way++) {
            boolean turned = way == 1;
            Supplier<Bench> made = () -> {
                Bench bench = completed("a0 b0 f1", "f(x0)", "a");
                bench.equation(turned ? "a" : "f(b)", turned ? "f(b)" : "a");
                return bench;
            };
            Bench.due("6 of 6", left(made, 6).desk.complete(1), 1);
            dueLimit("6 of 5", left(made, 5));
        }
    }

    /** The same of rules that go: after 6 to reduce f(x0), 6 for it and f(b), 6 for it and itself. */
    private static void fuelOfRulesThatGo() {
        Supplier<Bench> made = () -> {
            Bench bench = completed("a0 b0 f1", "f(b)", "a");
            bench.equation("f(x0)", "a");
            return bench;
        };
        dueDone("18 of 18", left(made, 18), 0, "f(x0) -> a");
        dueLimit("18 of 17", left(made, 17));
        dueLimit("12 of 11", left(made, 11));
        dueLimit("6 of 5", left(made, 5));
    }

    /** The same of right terms: 2 for f(p), 10 for k(p), which becomes k(a) and then f(p), 2 for p and itself. */
    private static void fuelOfRightTerms() {
        Supplier<Bench> made = () -> {
            Bench bench = completed("a0 f1 p0 k1 j0", "k(a)", "f(p)", "j", "k(p)");
            bench.equation("p", "a");
            return bench;
        };
        dueDone("14 of 14", left(made, 14), 0, "p -> a");
        int[] less = {13, 11, 10, 9, 3, 2, 1};
        for (int fuel : less) {
            dueLimit("14 of " + fuel, left(made, fuel));
        }
    }

    /** "(what takes none is: two variables are proved, reduced, and a step's pair, as ever)" */
    private static void pairsWithoutFuel() {
        Bench bench = completed("a0 b0 g2 f1", "f(x0)", "a");
        Bench.due("too much", bench.spend(ALL), false);
        bench.put(0, "x0").put(1, "x1");
        Bench.due("OUT", bench.desk.matches(0, 0), -1);
        Bench.due("reduced", bench.desk.reduce(1, 2), true);
        Bench.due("it", bench.show(2), "x1");
        Bench.due("proved", bench.desk.prove(1, 2), 1);
        Bench.due("not equal", bench.desk.prove(0, 1), 0);
        bench.desk.equation(1, 1);
        Bench.due("not yet", bench.desk.prove(0, 1), 2);
        Bench.due("a pair goes", bench.desk.complete(30), 1);
        bench.equation("g(a,b)", "g(a,b)");
        Bench.due("so does one of symbols without rules", bench.desk.complete(30), 1);
        bench.desk.equation(0, 1);
        Bench.due("neither is greater", bench.desk.complete(30), 2);
        Bench.due("it waits", bench.pairs(), "x0 = x1");
        bench.equation("f(a)", "f(a)");
        Bench.due("the lighter one is first", bench.desk.complete(30), 2);
        Bench other = completed("a0 b0 g2 f1", "f(x0)", "a");
        Bench.due("too much", other.spend(ALL), false);
        other.equation("f(a)", "f(a)");
        dueLimit("the same, but they must be reduced", other);
        other = new Bench("a0 b0 g2 f1");
        Bench.due("too much", other.spend(ALL), true);
        other.equation("b", "a");
        dueLimit("a rule must be overlapped", other);
    }

    /** "no further one ever", but all other calls are as ever. */
    private static void callsAfterALimit() {
        Bench bench = twice();
        bench.equation("h(h(f(" + ELEVEN + ")))", "a");
        dueLimit("25 nodes", bench);
        Bench.due("symbol", bench.desk.symbol(0, false), 5);
        Bench.due("reduce", bench.reduced("f(a)"), "g(a,a)");
        Bench.due("prove", bench.prove("f(a)", "g(a,a)"), 1);
        Bench.due("prove", bench.prove("f(a)", "a"), 2);
        Bench.due("matches", bench.matches("f(x0)", "f(a)"), 1);
        Bench.due("unifiers", bench.unifiers("f(x0)", "f(a)"), 1);
        int waiting = bench.desk.waiting();
        bench.equation("f(x0)", "a");
        Bench.due("equation", bench.desk.waiting(), waiting + 1);
    }

    /** "LIMIT: a step in which ..": other calls that are refused meet none. */
    private static void refusedCallsMeetNoLimit() {
        Bench bench = twice();
        bench.put(0, "h(h(f(" + ELEVEN + ")))").put(1, "g(x0,x1)").put(2, "g(" + ELEVEN + ",g(x0,g(x0,x0)))");
        Bench.due("reduce", bench.desk.reduce(0, 3), false);
        Bench.due("prove", bench.desk.prove(0, 1), 2);
        Bench.due("unifiers", bench.desk.unifiers(1, 2), 33);
        Bench.due("unifier", bench.desk.unifier(1, 2, 0, 3), false);
        Bench.due("complete(0)", bench.desk.complete(0), 1);
        bench.equation("h(x0)", "a");
        dueDone("a step", bench, 0, "h(x0) -> a");
    }
}
