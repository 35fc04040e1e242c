/**
 * FUEL: what a pair costs, and what is done when it is out. A term of 24 nodes, one below the
 * other, matches itself for 2 * (24 + 23 + .. + 1) = 600, a two-hundredth of a desk's fuel.
 */
public final class FuelTest {
    private static final String CHAIN = "f(".repeat(23) + "x0" + ")".repeat(23);
    private static final String SHORTER = "f(".repeat(22) + "x0" + ")".repeat(22);

    private FuelTest() { }

    public static void main(String[] args) {
        allOfIt();
        outForGood();
        wrongCallsTakeNothing();
        otherFalseCallsTakeIt();
        costOfMatches();
        costOfUnifiers();
        costOfReduce();
        outWhenReducing();
        outInSteps();
        outInRulesThatGo();
        Bench.finish("FuelTest");
    }

    /** Leaves the chain in place 0, x0 in place 1. */
    private static Bench burnt(Bench bench, int times) {
        bench.put(0, CHAIN).put(1, "x0");
        for (int i = 0; i < times; i++) {
            Bench.due("matches", bench.desk.matches(0, 0), 1);
        }
        return bench;
    }

    private static void dueOut(Bench bench) {
        EquationDesk desk = bench.desk;
        bench.put(1, "x0").put(2, "x1");
        Bench.due("matches(1, 1)", desk.matches(1, 1), -1);
        Bench.due("match(1, 1, 0, 0, 3)", desk.match(1, 1, 0, 0, 3), false);
        Bench.due("unifiers(1, 1)", desk.unifiers(1, 1), 33);
        Bench.due("unifiers(1, 16)", desk.unifiers(1, 16), -1);
        Bench.due("unifier(1, 1, 0, 3)", desk.unifier(1, 1, 0, 3), false);
        Bench.due("same(1, 1)", desk.same(1, 1), true);
        bench.put(3, "f(x0)");
        Bench.due("greater(3, 1)", desk.greater(3, 1), true);
    }

    private static void allOfIt() {
        Bench bench = burnt(new Bench("a0 f1"), 200);
        dueOut(bench);
        EquationDesk desk = burnt(new Bench("a0 f1"), 199).desk;
        for (int i = 0; i < 250; i++) {
            Bench.due("2 of 600", i % 2 == 0 ? desk.matches(1, 1) : desk.unifiers(1, 1), 1);
        }
        for (int i = 0; i < 4; i++) {
            Bench.due("25 of 100", desk.matches(1, 0), 1);
        }
        Bench.due("none left", desk.matches(1, 1), -1);
    }

    private static void outForGood() {
        Bench bench = burnt(new Bench("a0 f1"), 199);
        EquationDesk desk = bench.desk;
        bench.put(2, SHORTER);
        Bench.due("575 of 600", desk.matches(0, 2), 0);
        Bench.due("2 of 25", desk.matches(1, 1), 1);
        Bench.due("48 of 23", desk.matches(0, 0), -1);
        dueOut(bench);
        bench = burnt(new Bench("a0 f1"), 199);
        bench.put(2, SHORTER);
        Bench.due("575 of 600", bench.desk.unifiers(2, 0), 0);
        Bench.due("48 of 25", bench.desk.unifiers(0, 0), 33);
        dueOut(bench);
    }

    private static void wrongCallsTakeNothing() {
        EquationDesk desk = burnt(new Bench("a0 f1"), 199).desk;
        for (int i = 0; i < 10; i++) {
            desk.matches(0, 16);
            desk.matches(-1, 0);
            desk.match(0, 0, 0, 6, 2);
            desk.match(0, 0, 0, -1, 2);
            desk.match(0, 0, 0, 0, 16);
            desk.match(0, 0, 0, 0, -1);
            desk.match(0, 16, 0, 0, 2);
            desk.unifiers(0, 16);
            desk.unifiers(-1, 0);
            desk.unifier(0, 0, 0, 16);
            desk.unifier(0, 0, 0, -1);
            desk.unifier(0, 16, 0, 2);
        }
        Bench.due("all 600", desk.matches(0, 0), 1);
        Bench.due("none left", desk.matches(1, 1), -1);
    }

    private static void otherFalseCallsTakeIt() {
        for (int way = 0; way < 4; way++) {
            Bench bench = burnt(new Bench("a0 f1"), 199);
            EquationDesk desk = bench.desk;
            bench.put(2, CHAIN.replace("x0", "x1"));
            Bench.due("false", way == 0 ? desk.match(0, 0, 1, 0, 3) : way == 1 ? desk.match(0, 0, 0, 1, 3)
                : way == 2 ? desk.unifier(0, 2, 1, 3) : desk.unifier(0, 2, -1, 3), false);
            Bench.due("none left, way " + way, desk.matches(1, 1), -1);
        }
    }

    /** So many calls are answered with 600 left, and one more isn't. */
    private static void dueTimes(String symbols, String a, String b, boolean unify, int answer, int times) {
        Bench bench = burnt(new Bench(symbols), 199);
        bench.put(2, a).put(3, b);
        for (int i = 0; i < times; i++) {
            Bench.due(a + " " + b + " call " + i, unify ? bench.desk.unifiers(2, 3) : bench.desk.matches(2, 3), answer);
        }
        Bench.due(a + " " + b + " once more", unify ? bench.desk.unifiers(2, 3) : bench.desk.matches(2, 3),
            unify ? 33 : -1);
    }

    private static void costOfMatches() {
        String five = "g(a,g(a,a))";
        String eleven = "g(" + five + "," + five + ")";
        dueTimes("a0 f1 g2 c2!", "g(x0,x0)", "g(" + eleven + "," + eleven + ")", false, 1, 12);
        dueTimes("a0 f1 g2 c2!", "c(x0,x1)", "c(a,f(f(a)))", false, 2, 30);
        dueTimes("a0 f1 g2 c2!", "c(x0,x1)", "c(f(a),f(a))", false, 1, 30);
        dueTimes("a0 f1 g2 c2!", "c(a,a)", "c(f(a),f(f(f(a))))", false, 0, 33);
        dueTimes("a0 f1 g2 c2!", "g(a,x0)", "g(f(f(a)),f(f(f(a))))", false, 0, 40);
        dueTimes("a0 f1 g2 c2!", "g(x0,x0)", "g(f(f(a)),f(a))", false, 0, 37);
    }

    private static void costOfUnifiers() {
        String five = "g(a,g(a,a))";
        String eleven = "g(" + five + "," + five + ")";
        dueTimes("a0 f1 g2 c2!", "g(x0,x0)", "g(" + eleven + "," + eleven + ")", true, 1, 10);
        dueTimes("a0 f1 g2 c2!", "c(x0,x1)", "c(x0,x1)", true, 1, 100);
        dueTimes("a0 f1 g2 c2!", "c(x0,x1)", "c(a,f(f(a)))", true, 2, 30);
        dueTimes("a0 f1 g2 c2!", "g(a,x0)", "g(f(f(a)),f(f(f(a))))", true, 0, 40);
    }

    /** The rule's own critical pairs cost 14; each reduction 20, as both matches are looked for. */
    private static void costOfReduce() {
        Bench bench = new Bench("a0 f1 c2!");
        bench.equation("c(x0,x1)", "a");
        Bench.due("complete(30)", bench.desk.complete(30), 1);
        burnt(bench, 199);
        bench.put(2, "c(a,f(f(a)))");
        for (int i = 0; i < 29; i++) {
            Bench.due("20 of 586", bench.desk.reduce(2, 3), true);
        }
        bench.put(3, "f(a)");
        Bench.due("20 of 6", bench.desk.reduce(2, 3), false);
        Bench.due("the place stays", bench.show(3), "f(a)");
        dueOut(bench);
    }

    private static void outWhenReducing() {
        Bench bench = new Bench("a0 b0 f1 g2");
        bench.equation("g(f(x0),a)", "x0");
        Bench.due("complete(30)", bench.desk.complete(30), 1);
        burnt(bench, 199);
        for (int i = 0; i < 20; i++) {
            bench.desk.matches(0, 0);
        }
        dueOut(bench);
        Bench.due("a variable", bench.reduced("x3"), "x3");
        Bench.due("of other symbols", bench.reduced("f(f(b))"), "f(f(b))");
        Bench.due("of fewer nodes", bench.reduced("f(g(a,x2))"), "f(g(a,x2))");
        Bench.due("of as many nodes", bench.reduced("g(f(x0),a)"), "none");
        Bench.due("of as many nodes, no match", bench.reduced("g(a,f(a))"), "none");
        Bench.due("of more nodes within", bench.reduced("f(f(g(f(a),f(a))))"), "none");
        Bench.due("two variables", bench.prove("x0", "x1"), 0);
        Bench.due("one variable", bench.prove("x1", "x1"), 1);
        Bench.due("constants", bench.prove("a", "b"), 0);
        Bench.due("one can't be reduced", bench.prove("a", "g(f(a),f(a))"), 2);
        Bench.due("the same one can't be", bench.prove("g(f(a),f(a))", "g(f(a),f(a))"), 2);
    }

    private static void outInSteps() {
        Bench bench = burnt(new Bench("a0 b0 f1"), 200);
        bench.desk.matches(0, 0);
        bench.equation("f(b)", "f(b)");
        Bench.due("a pair of the same", bench.desk.complete(1), 1);
        bench.equation("x0", "x1");
        Bench.due("no order", bench.desk.complete(1), 2);
        bench.equation("x0", "x0");
        Bench.due("the first of two", bench.desk.complete(1), 2);
        bench.equation("a", "b");
        Bench.due("they wait", bench.desk.waiting(), 3);
        Bench other = burnt(new Bench("a0 b0 f1"), 200);
        other.equation("a", "b");
        Bench.due("a new rule takes a pair with itself", other.desk.complete(1), 3);
        Bench.due("rules()", other.desk.rules(), 0);
        Bench.due("pairs", other.pairs(), "a = b");
        Bench.due("for ever", other.desk.complete(0), 3);
    }

    /** With 600 left a new rule is too dear, once since all matches at a node are looked for. */
    private static void outInRulesThatGo() {
        Bench bench = new Bench("a0 f1 c2!");
        bench.equation("f(c(x0,x1))", "a");
        Bench.due("complete(30)", bench.desk.complete(30), 1);
        burnt(bench, 199);
        // 22 were taken by f(c(x0,x1)) and itself, so that 578 are left.
        bench.put(2, "c(a,f(f(a)))").put(3, "c(x0,x1)");
        for (int i = 0; i < 27; i++) {
            Bench.due("20 of 578", bench.desk.matches(3, 2), 2);
        }
        bench.put(2, "f(a)");
        Bench.due("3 of 38", bench.desk.matches(1, 2), 1);
        Bench.due("3 of 35", bench.desk.matches(1, 2), 1);
        Bench.due("2 of 32", bench.desk.matches(1, 1), 1);
        Bench.due("2 of 30", bench.desk.matches(1, 1), 1);
        // 14 for the node of the old rule that it matches, both ways, 14 for itself: 28 of 28.
        bench.equation("c(x0,x1)", "a");
        Bench.due("complete(1)", bench.desk.complete(1), 0);
        Bench.due("rules", bench.rules(), "c(x0,x1) -> a");
        Bench.due("pairs", bench.pairs(), "f(c(x0,x1)) = a; a = a; a = a");
        Bench.due("none left", bench.desk.matches(1, 1), -1);
    }
}
