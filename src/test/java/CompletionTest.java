/** Promises 13 to 20: pairs, steps, rules, reduced terms and proofs. */
public final class CompletionTest {
    private static final int[] NOWHERE = {-1, 16, Integer.MIN_VALUE, Integer.MAX_VALUE};

    private CompletionTest() { }

    public static void main(String[] args) {
        equation();
        sixtyPairs();
        wrongEquations();
        stepsOneByOne();
        rulesGo();
        rightTermsAreReduced();
        rightTermsAreReducedByOldOnes();
        newRuleIsRenamed();
        commutativeCriticalPairs();
        criticalPairsInOrder();
        variablesAroundANode();
        criticalPairsAreSortedThenRenamed();
        lightestPairFirst();
        stuck();
        numberOfSteps();
        ruleAndPair();
        reduce();
        reduceAsAWhole();
        firstRuleAndMatch();
        prove();
        Bench.finish("CompletionTest");
    }

    private static void equation() {
        Bench bench = new Bench("a0 f1 g2 c2!");
        EquationDesk desk = bench.desk;
        bench.put(0, "c(f(x1),x3)").put(1, "g(x1,x5)");
        Bench.due("equation(0, 1)", desk.equation(0, 1), true);
        Bench.due("renamed", bench.pair(0), "c(x0,f(x1)) = g(x1,x2)");
        bench.equation("g(x5,c(x2,x5))", "x2");
        Bench.due("renamed, then sorted again", bench.pair(1), "g(x0,c(x0,x1)) = x1");
        bench.equation("a", "g(x4,x3)");
        Bench.due("from the second one too", bench.pair(2), "a = g(x0,x1)");
        bench.equation("x2", "x2");
        Bench.due("waiting()", desk.waiting(), 4);
        Bench.due("the same place twice", desk.equation(0, 0), true);
        Bench.due("it", bench.pair(4), "c(x0,f(x1)) = c(x0,f(x1))");
        Bench.due("places stay", bench.show(0), "c(x3,f(x1))");
        Bench.due("no rules yet", desk.rules(), 0);
    }

    private static void sixtyPairs() {
        Bench bench = new Bench("a0 b0");
        bench.put(0, "a").put(1, "b");
        for (int i = 0; i < 60; i++) {
            Bench.due("equation " + i, bench.desk.equation(i == 0 ? 1 : 0, 1), true);
        }
        Bench.due("a sixty-first", bench.desk.equation(0, 1), false);
        Bench.due("waiting()", bench.desk.waiting(), 60);
        Bench.due("the first", bench.pair(0), "b = b");
        Bench.due("the last", bench.pair(59), "a = b");
        bench.put(0, "a").put(1, "b");
        Bench.due("a step", bench.desk.complete(1), 0);
        Bench.due("waiting()", bench.desk.waiting(), 59);
        Bench.due("there is room again", bench.desk.equation(1, 1), true);
        Bench.due("the last", bench.pair(59), "b = b");
    }

    private static void wrongEquations() {
        EquationDesk desk = new EquationDesk();
        for (int p : NOWHERE) {
            Bench.due("equation(" + p + ", 0)", desk.equation(p, 0), false);
            Bench.due("equation(0, " + p + ")", desk.equation(0, p), false);
        }
        Bench.due("waiting()", desk.waiting(), 0);
    }

    private static void dueStep(Bench bench, int answer, String rules, String pairs) {
        Bench.due("complete(1)", bench.desk.complete(1), answer);
        Bench.due("rules", bench.rules(), rules);
        Bench.due("pairs", bench.pairs(), pairs);
    }

    private static void stepsOneByOne() {
        Bench bench = new Bench("a0 b0 f1");
        bench.equation("f(f(x4))", "b");
        dueStep(bench, 0, "f(f(x0)) -> b", "b = b; f(b) = b");
        dueStep(bench, 0, "f(f(x0)) -> b", "f(b) = b");
        dueStep(bench, 0, "f(f(x0)) -> b; f(b) -> b", "f(b) = b; b = b");
        dueStep(bench, 0, "f(f(x0)) -> b; f(b) -> b", "f(b) = b");
        dueStep(bench, 1, "f(f(x0)) -> b; f(b) -> b", "");
        dueStep(bench, 1, "f(f(x0)) -> b; f(b) -> b", "");
    }

    private static void rulesGo() {
        Bench bench = new Bench("a0 b0 f1");
        bench.equation("f(f(x4))", "b");
        Bench.due("complete(30)", bench.desk.complete(30), 1);
        bench.equation("f(x3)", "a");
        dueStep(bench, 0, "f(x0) -> a", "f(f(x0)) = b; f(b) = b; a = a");
        dueStep(bench, 0, "f(x0) -> a", "f(f(x0)) = b; f(b) = b");
        dueStep(bench, 0, "f(x0) -> a; b -> a", "f(f(x0)) = b; a = a");
        Bench.due("complete(30)", bench.desk.complete(30), 1);
        Bench.due("rules", bench.rules(), "f(x0) -> a; b -> a");
    }

    private static void rightTermsAreReduced() {
        Bench bench = new Bench("a0 b0 e0 f1");
        bench.equation("f(x0)", "e");
        Bench.due("complete(30)", bench.desk.complete(30), 1);
        bench.equation("b", "e");
        dueStep(bench, 0, "f(x0) -> b; e -> b", "b = b");
        bench.equation("a", "b");
        dueStep(bench, 0, "f(x0) -> b; e -> b", "a = b");
        dueStep(bench, 0, "f(x0) -> a; e -> a; b -> a", "a = a");
    }

    /** Of e -> f(b) and j -> g(f(b)), by b -> a both right terms become reduced in one step. */
    private static void rightTermsAreReducedByOldOnes() {
        Bench bench = new Bench("a0 b0 f1 g1 e0 j0");
        bench.equation("e", "f(b)");
        bench.equation("j", "g(f(b))");
        Bench.due("complete(30)", bench.desk.complete(30), 1);
        Bench.due("rules", bench.rules(), "e -> f(b); j -> g(f(b))");
        bench.equation("f(b)", "a");
        dueStep(bench, 0, "e -> a; j -> g(a); f(b) -> a", "a = a");
    }

    private static void newRuleIsRenamed() {
        Bench bench = new Bench("a0 f1 g2 c2!");
        bench.equation("f(x0)", "g(g(x1,x0),f(x0))");
        Bench.due("renamed as a pair", bench.pair(0), "f(x0) = g(g(x1,x0),f(x0))");
        Bench.due("complete(1)", bench.desk.complete(1), 0);
        Bench.due("renamed by the left term", bench.rule(0), "g(g(x0,x1),f(x1)) -> f(x1)");
        Bench other = new Bench("a0 f1 g2 c2!");
        other.equation("g(x0,x1)", "c(x1,f(x0))");
        Bench.due("complete(1)", other.desk.complete(1), 0);
        Bench.due("renamed by the left term", other.rule(0), "c(x0,f(x1)) -> g(x1,x0)");
    }

    private static void commutativeCriticalPairs() {
        Bench bench = new Bench("a0 b0 c2!");
        bench.equation("c(a,x2)", "x2");
        dueStep(bench, 0, "c(x0,a) -> x0", "x0 = x0; a = a");
        Bench.due("complete(30)", bench.desk.complete(30), 1);
        bench.equation("c(x1,x1)", "b");
        dueStep(bench, 0, "c(x0,a) -> x0; c(x0,x0) -> b", "b = a; a = b; b = b");
    }

    /** r: g(f(x0),x1) -> x0 first, then the new one f(a) -> b in it, and r in r before. */
    private static void criticalPairsInOrder() {
        Bench bench = new Bench("a0 b0 f1 g2");
        bench.equation("g(f(x0),x1)", "x0");
        dueStep(bench, 0, "g(f(x0),x1) -> x0", "x0 = x0");
        dueStep(bench, 1, "g(f(x0),x1) -> x0", "");
        bench.equation("f(a)", "b");
        dueStep(bench, 0, "g(f(x0),x1) -> x0; f(a) -> b", "g(b,x0) = a; b = b");
        bench.equation("f(g(x0,x1))", "x1");
        dueStep(bench, 0, "g(f(x0),x1) -> x0; f(a) -> b", "g(b,x0) = a; f(g(x0,x1)) = x1");
        dueStep(bench, 0, "g(f(x0),x1) -> x0; f(a) -> b; g(b,x0) -> a",
            "f(g(x0,x1)) = x1; a = a");
        dueStep(bench, 0, "g(f(x0),x1) -> x0; f(a) -> b; g(b,x0) -> a", "f(g(x0,x1)) = x1");
        dueStep(bench, 0, "g(f(x0),x1) -> x0; f(a) -> b; g(b,x0) -> a; f(g(x0,x1)) -> x1",
            "g(x0,x1) = g(x2,x0); f(x0) = x1; f(a) = x0; x0 = x0");
    }

    /** Variables before and behind the node that is replaced are those of the other rule still. */
    private static void variablesAroundANode() {
        Bench bench = new Bench("a0 k2 h1 g2 f1");
        bench.equation("g(x0,g(f(x1),x2))", "k(x0,k(x1,x2))");
        dueStep(bench, 0, "g(x0,g(f(x1),x2)) -> k(x0,k(x1,x2))",
            "k(x0,k(x1,x2)) = k(x0,k(x1,x2)); g(x0,k(f(x1),k(x2,x3))) = k(x0,k(x1,g(f(x2),x3)))");
        bench = new Bench("a0 k2 h1 g2 f1");
        bench.equation("g(x1,g(f(x0),x2))", "h(x2)");
        Bench.due("complete(1)", bench.desk.complete(1), 0);
        bench.equation("f(h(x1))", "x1");
        Bench.due("complete(1)", bench.desk.complete(1), 0);
        Bench.due("complete(1)", bench.desk.complete(1), 0);
        Bench.due("rules", bench.rules(), "g(x0,g(f(x1),x2)) -> h(x2); f(h(x0)) -> x0");
        Bench.due("the pair", bench.pair(1), "g(x0,g(x1,x2)) = h(x2)");
    }

    private static void criticalPairsAreSortedThenRenamed() {
        Bench bench = new Bench("a0 f1 g2 k1 c2!");
        bench.equation("c(f(x0),g(x1,x2))", "a");
        Bench.due("complete(30)", bench.desk.complete(30), 1);
        bench.equation("f(k(x0))", "k(x0)");
        Bench.due("complete(1)", bench.desk.complete(1), 0);
        Bench.due("the first term", bench.pair(0), "c(g(x0,x1),k(x2)) = a");
        bench = new Bench("a0 g2 k2 f1 c2! h1");
        bench.equation("h(f(k(x0,x1)))", "c(x0,x1)");
        Bench.due("complete(30)", bench.desk.complete(30), 1);
        bench.equation("f(k(g(x0,x1),x2))", "a");
        Bench.due("complete(1)", bench.desk.complete(1), 0);
        Bench.due("the second term", bench.pair(0), "h(a) = c(x0,g(x1,x2))");
    }

    private static void lightestPairFirst() {
        Bench bench = new Bench("a0 b0 e0 j0 f1 h1");
        bench.equation("f(f(a))", "a");
        bench.equation("h(a)", "j");
        bench.equation("h(a)", "e");
        bench.equation("h(f(a))", "b");
        dueStep(bench, 0, "h(a) -> j", "f(f(a)) = a; h(a) = e; h(f(a)) = b; j = j");
        dueStep(bench, 0, "h(a) -> j", "f(f(a)) = a; h(a) = e; h(f(a)) = b");
        dueStep(bench, 0, "h(a) -> e; j -> e", "f(f(a)) = a; h(f(a)) = b; e = e");
    }

    private static void stuck() {
        Bench bench = new Bench("a0 b0 f1 g2");
        bench.equation("f(x0)", "x0");
        Bench.due("complete(30)", bench.desk.complete(30), 1);
        bench.equation("g(f(x0),x1)", "g(x1,x0)");
        for (int i = 0; i < 3; i++) {
            Bench.due("complete(5)", bench.desk.complete(5), 2);
            Bench.due("as it was", bench.pairs(), "g(f(x0),x1) = g(x1,x0)");
        }
        Bench.due("complete(0)", bench.desk.complete(0), 0);
        bench.equation("a", "b");
        Bench.due("a lighter one goes first", bench.desk.complete(1), 0);
        Bench.due("its rule", bench.rules(), "f(x0) -> x0; b -> a");
        Bench.due("until the other one", bench.desk.complete(30), 2);
        Bench.due("waiting()", bench.desk.waiting(), 1);
        Bench vars = new Bench("");
        vars.equation("x0", "x1");
        Bench.due("two variables", vars.desk.complete(1), 2);
        Bench other = new Bench("a0");
        other.equation("x0", "a");
        Bench.due("a variable and a constant", other.desk.complete(1), 2);
    }

    private static void numberOfSteps() {
        Bench bench = new Bench("a0 b0");
        bench.put(0, "a").put(1, "b");
        for (int i = 0; i < 40; i++) {
            bench.desk.equation(0, 0);
        }
        int[] none = {0, -1, 31, 32, Integer.MIN_VALUE, Integer.MAX_VALUE};
        for (int n : none) {
            Bench.due("complete(" + n + ")", bench.desk.complete(n), 0);
            Bench.due("waiting()", bench.desk.waiting(), 40);
        }
        Bench.due("complete(30)", bench.desk.complete(30), 0);
        Bench.due("waiting()", bench.desk.waiting(), 10);
        Bench.due("complete(9)", bench.desk.complete(9), 0);
        Bench.due("waiting()", bench.desk.waiting(), 1);
        Bench.due("complete(1)", bench.desk.complete(1), 1);
        Bench.due("complete(31)", bench.desk.complete(31), 1);
    }

    private static void ruleAndPair() {
        Bench bench = new Bench("a0 f1");
        EquationDesk desk = bench.desk;
        bench.equation("f(x3)", "x3");
        bench.equation("f(f(f(a)))", "a");
        desk.complete(1);
        Bench.due("left", desk.rule(0, false, 2), true);
        Bench.due("left", bench.show(2), "f(x0)");
        Bench.due("right", desk.rule(0, true, 2), true);
        Bench.due("right", bench.show(2), "x0");
        Bench.due("first", desk.pair(0, false, 3), true);
        Bench.due("first", bench.show(3), "f(f(f(a)))");
        Bench.due("second", desk.pair(0, true, 3), true);
        Bench.due("second", bench.show(3), "a");
        Bench.due("rule(1, ..)", desk.rule(1, false, 3), false);
        Bench.due("pair(2, ..)", desk.pair(2, false, 3), false);
        for (int p : NOWHERE) {
            Bench.due("rule(" + p + ", ..)", desk.rule(p, true, 3), false);
            Bench.due("rule(0, .., " + p + ")", desk.rule(0, true, p), false);
            Bench.due("pair(" + p + ", ..)", desk.pair(p, true, 3), false);
            Bench.due("pair(0, .., " + p + ")", desk.pair(0, true, p), false);
        }
        Bench.due("it stays", bench.show(3), "a");
        Bench.due("rules()", desk.rules(), 1);
        Bench.due("waiting()", desk.waiting(), 2);
    }

    private static void reduce() {
        Bench bench = new Bench("a0 b0 e0 f1 c2!");
        Bench.due("without rules", bench.reduced("c(f(a),x2)"), "c(x2,f(a))");
        bench.equation("e", "a");
        bench.equation("f(f(x0))", "x0");
        bench.desk.complete(30);
        Bench.due("rules", bench.rules(), "e -> a; f(f(x0)) -> x0");
        Bench.due("a variable", bench.reduced("x5"), "x5");
        Bench.due("sorted again", bench.reduced("c(b,e)"), "c(a,b)");
        Bench.due("within", bench.reduced("f(c(f(f(e)),f(f(f(x3)))))"), "f(c(a,f(x3)))");
        String long24 = "f(".repeat(23) + "e" + ")".repeat(23);
        Bench.due("24 nodes", bench.reduced(long24), "f(a)");
        Bench.due("24 nodes", bench.reduced("f(c(c(c(x0,x0),c(x0,x0)),c(c(x0,x0),c(b,f(f(f(f(f(f(f(b)))))))))))"),
            "f(c(c(c(x0,x0),c(x0,x0)),c(c(x0,x0),c(b,f(b)))))");
        Bench.due("again and again", bench.reduced("f(f(f(f(f(f(f(e)))))))"), "f(a)");
        EquationDesk desk = bench.desk;
        bench.put(0, "f(f(b))");
        for (int p : NOWHERE) {
            Bench.due("reduce(" + p + ", 0)", desk.reduce(p, 0), false);
            Bench.due("reduce(0, " + p + ")", desk.reduce(0, p), false);
        }
        Bench.due("it stays", bench.show(0), "f(f(b))");
        Bench.due("into its own place", desk.reduce(0, 0), true);
        Bench.due("it", bench.show(0), "b");
    }

    private static void reduceAsAWhole() {
        Bench bench = new Bench("a0 h1 g2 f1");
        bench.equation("f(x0)", "g(x0,x0)");
        Bench.due("complete(30)", bench.desk.complete(30), 1);
        String five = "g(a,g(a,a))";
        String eleven = "g(" + five + "," + five + ")";
        Bench.due("23 nodes", bench.reduced("f(" + eleven + ")"), "g(" + eleven + "," + eleven + ")");
        Bench.due("24 nodes", bench.reduced("h(f(" + eleven + "))"), "h(g(" + eleven + "," + eleven + "))");
        Bench.due("25 nodes", bench.reduced("h(h(f(" + eleven + ")))"), "none");
        Bench.due("the place stays", bench.show(5), "h(g(" + eleven + "," + eleven + "))");
        Bench.due("25 nodes", bench.reduced("g(x0,f(" + eleven + "))"), "none");
        Bench.due("25 nodes, first argument", bench.reduced("g(f(" + eleven + "),x0)"), "none");
        Bench.due("31 nodes", bench.reduced("f(f(f(h(h(a)))))"), "none");
        Bench.due("23 nodes", bench.reduced("f(f(f(h(a))))"),
            "g(g(g(h(a),h(a)),g(h(a),h(a))),g(g(h(a),h(a)),g(h(a),h(a))))");
        Bench.due("one can't be reduced", bench.prove("h(h(f(" + eleven + ")))", "a"), 2);
        Bench.due("the other one can't be", bench.prove("a", "h(h(f(" + eleven + ")))"), 2);
    }

    private static void firstRuleAndMatch() {
        Bench bench = new Bench("a0 b0 f1 g2 c2!");
        bench.equation("c(x0,f(x1))", "x0");
        bench.desk.complete(1);
        Bench.due("the first match", bench.reduced("c(f(b),f(a))"), "f(a)");
        Bench.due("the only match", bench.reduced("c(f(b),a)"), "a");
        Bench other = new Bench("a0 b0 f1 g2 c2!");
        other.equation("g(x0,a)", "x0");
        other.equation("g(b,x0)", "f(x0)");
        other.desk.complete(3);
        Bench.due("rules", other.rules(), "g(x0,a) -> x0; g(b,x0) -> f(x0)");
        Bench.due("the first rule", other.reduced("g(b,a)"), "b");
        Bench.due("the second rule", other.reduced("g(b,b)"), "f(b)");
        Bench.due("arguments first", other.reduced("g(b,g(a,a))"), "b");
    }

    private static void prove() {
        Bench bench = new Bench("a0 b0 f1");
        bench.equation("f(f(x0))", "x0");
        Bench.due("the same", bench.prove("f(f(a))", "f(f(a))"), 1);
        Bench.due("a pair waits", bench.prove("f(f(a))", "a"), 2);
        Bench.due("complete(1)", bench.desk.complete(1), 0);
        Bench.due("the same by rules", bench.prove("f(f(a))", "a"), 1);
        Bench.due("not yet", bench.prove("a", "b"), 2);
        Bench.due("complete(30)", bench.desk.complete(30), 1);
        Bench.due("not equal", bench.prove("a", "b"), 0);
        Bench.due("not equal", bench.prove("f(f(x0))", "f(x0)"), 0);
        Bench.due("equal", bench.prove("f(f(f(x1)))", "f(x1)"), 1);
        Bench.due("variables", bench.prove("x0", "x1"), 0);
        Bench.due("variables", bench.prove("x4", "x4"), 1);
        bench.put(0, "f(f(a))");
        for (int p : NOWHERE) {
            Bench.due("prove(" + p + ", 0)", bench.desk.prove(p, 0), -1);
            Bench.due("prove(0, " + p + ")", bench.desk.prove(0, p), -1);
        }
        Bench.due("nothing is put", bench.show(0), "f(f(a))");
    }
}
