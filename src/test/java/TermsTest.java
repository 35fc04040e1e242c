/** Promises 1 to 8: a new object, symbols, terms in places, sameness and the order. */
public final class TermsTest {
    private static final int MIN = Integer.MIN_VALUE;
    private static final int MAX = Integer.MAX_VALUE;

    private TermsTest() { }

    public static void main(String[] args) {
        newObject();
        symbol();
        variable();
        term();
        termsAreSorted();
        sizeAndNode();
        same();
        greater();
        greaterOfCommutative();
        greaterOfLongTerms();
        wrongOrder();
        Bench.finish("TermsTest");
    }

    private static void newObject() {
        EquationDesk desk = new EquationDesk();
        Bench.due("NONE", EquationDesk.NONE, -1);
        Bench.due("rules()", desk.rules(), 0);
        Bench.due("waiting()", desk.waiting(), 0);
        Bench.due("rule(0, false, 0)", desk.rule(0, false, 0), false);
        Bench.due("pair(0, false, 0)", desk.pair(0, false, 0), false);
        Bench.due("term(0, 0, 0, 0)", desk.term(0, 0, 0, 0), false);
        for (int i = 0; i < 16; i++) {
            Bench.due("size", desk.size(i), 1);
            Bench.due("node", desk.node(i, 0), 100);
        }
        Bench.due("complete(30)", desk.complete(30), 1);
        Bench.due("complete(0)", desk.complete(0), 1);
        Bench.due("first symbol", desk.symbol(0, false), 0);
        Bench.due("of another desk", new EquationDesk().term(0, 0, 0, 0), false);
    }

    private static void symbol() {
        EquationDesk desk = new EquationDesk();
        int[] wrong = {-1, 3, MIN, MAX};
        for (int arity : wrong) {
            Bench.due("symbol(" + arity + ", false)", desk.symbol(arity, false), -1);
            Bench.due("symbol(" + arity + ", true)", desk.symbol(arity, true), -1);
        }
        Bench.due("symbol(0, true)", desk.symbol(0, true), -1);
        Bench.due("symbol(1, true)", desk.symbol(1, true), -1);
        for (int i = 0; i < 10; i++) {
            Bench.due("symbol " + i, desk.symbol(i % 3, i == 5), i);
        }
        Bench.due("an eleventh", desk.symbol(0, false), -1);
        Bench.due("and again", desk.symbol(2, true), -1);
        Bench.due("the tenth is there", desk.term(0, 9, 0, 0), true);
        Bench.due("the eleventh isn't", desk.term(0, 10, 0, 0), false);
    }

    private static void variable() {
        EquationDesk desk = new EquationDesk();
        for (int v = 0; v < 6; v++) {
            Bench.due("variable(15, " + v + ")", desk.variable(15, v), true);
            Bench.due("node(15, 0)", desk.node(15, 0), 100 + v);
        }
        int[] wrong = {-1, 6, MIN, MAX};
        for (int v : wrong) {
            Bench.due("variable(15, " + v + ")", desk.variable(15, v), false);
        }
        Bench.due("it stays", desk.node(15, 0), 105);
        int[] nowhere = {-1, 16, MIN, MAX};
        for (int p : nowhere) {
            Bench.due("variable(" + p + ", 1)", desk.variable(p, 1), false);
        }
        Bench.due("the others stay", desk.node(0, 0), 100);
    }

    private static void term() {
        Bench bench = new Bench("a0 f1 g2 c2!");
        EquationDesk desk = bench.desk;
        Bench.due("a, places mean nothing", desk.term(0, 0, -7, MAX), true);
        Bench.due("it", bench.show(0), "a");
        Bench.due("f, second means nothing", desk.term(1, 1, 0, MIN), true);
        Bench.due("it", bench.show(1), "f(a)");
        Bench.due("f of nowhere", desk.term(2, 1, 16, 0), false);
        Bench.due("g of nowhere first", desk.term(2, 2, -1, 0), false);
        Bench.due("g of nowhere second", desk.term(2, 2, 0, 16), false);
        Bench.due("it stays", bench.show(2), "x0");
        int[] wrong = {-1, 4, 10, MIN, MAX};
        for (int s : wrong) {
            Bench.due("term(2, " + s + ", 0, 0)", desk.term(2, s, 0, 0), false);
        }
        int[] nowhere = {-1, 16, MIN, MAX};
        for (int p : nowhere) {
            Bench.due("term(" + p + ", 0, 0, 0)", desk.term(p, 0, 0, 0), false);
        }
        Bench.due("of itself", desk.term(1, 2, 1, 1), true);
        Bench.due("it", bench.show(1), "g(f(a),f(a))");
        desk.term(3, 2, 1, 1);
        desk.term(4, 2, 3, 3);
        Bench.due("23 nodes", desk.size(4), 23);
        Bench.due("24 nodes", desk.term(5, 1, 4, 0), true);
        Bench.due("24 nodes", desk.size(5), 24);
        Bench.due("25 nodes", desk.term(5, 1, 5, 0), false);
        Bench.due("it stays", desk.size(5), 24);
        Bench.due("25 nodes", desk.term(6, 2, 4, 0), false);
        Bench.due("it stays", bench.show(6), "x0");
        Bench.due("many nodes", desk.term(6, 3, 5, 5), false);
        Bench.due("an older one stays", bench.show(0), "a");
    }

    private static void termsAreSorted() {
        Bench bench = new Bench("a0 b0 f1 g2 c2! d2!");
        String[][] all = {
            {"c(b,a)", "c(a,b)"}, {"c(a,x5)", "c(x5,a)"}, {"c(x3,x2)", "c(x2,x3)"}, {"g(b,a)", "g(b,a)"},
            {"c(f(b),f(a))", "c(f(a),f(b))"}, {"c(g(a,b),g(a,a))", "c(g(a,a),g(a,b))"},
            {"c(g(b,a),g(a,b))", "c(g(a,b),g(b,a))"}, {"c(d(a,a),c(b,b))", "c(c(b,b),d(a,a))"},
            {"c(f(f(x0)),f(x5))", "c(f(x5),f(f(x0)))"}, {"c(f(f(a)),f(b))", "c(f(b),f(f(a)))"},
            {"c(c(b,a),c(a,a))", "c(c(a,a),c(a,b))"}, {"d(c(x1,x0),x4)", "d(x4,c(x0,x1))"},
            {"f(c(f(a),b))", "f(c(b,f(a)))"}, {"c(c(x1,c(b,a)),c(x0,f(a)))", "c(c(x0,f(a)),c(x1,c(a,b)))"},
        };
        for (String[] one : all) {
            Bench.due("sorted " + one[0], bench.put(0, one[0]).show(0), one[1]);
        }
    }

    private static void sizeAndNode() {
        Bench bench = new Bench("a0 f1 g2 c2!");
        EquationDesk desk = bench.desk;
        bench.put(3, "g(f(c(a,x2)),a)");
        Bench.due("size(3)", desk.size(3), 6);
        int[] nodes = {2, 1, 3, 102, 0, 0};
        for (int i = 0; i < nodes.length; i++) {
            Bench.due("node(3, " + i + ")", desk.node(3, i), nodes[i]);
        }
        int[] wrong = {-1, 6, 24, MIN, MAX};
        for (int i : wrong) {
            Bench.due("node(3, " + i + ")", desk.node(3, i), -1);
        }
        int[] nowhere = {-1, 16, MIN, MAX};
        for (int p : nowhere) {
            Bench.due("size(" + p + ")", desk.size(p), -1);
            Bench.due("node(" + p + ", 0)", desk.node(p, 0), -1);
        }
    }

    private static void same() {
        Bench bench = new Bench("a0 b0 f1 g2 c2!");
        EquationDesk desk = bench.desk;
        bench.put(0, "c(a,f(x1))").put(1, "c(f(x1),a)").put(2, "c(f(x2),a)").put(3, "g(a,b)").put(4, "g(b,a)");
        Bench.due("same(0, 1)", desk.same(0, 1), true);
        Bench.due("same(1, 1)", desk.same(1, 1), true);
        Bench.due("same(0, 2)", desk.same(0, 2), false);
        Bench.due("same(3, 4)", desk.same(3, 4), false);
        bench.put(5, "f(a)").put(6, "f(f(a))");
        Bench.due("same(5, 6)", desk.same(5, 6), false);
        int[] nowhere = {-1, 16, MIN, MAX};
        for (int p : nowhere) {
            Bench.due("same(" + p + ", 0)", desk.same(p, 0), false);
            Bench.due("same(0, " + p + ")", desk.same(0, p), false);
            Bench.due("same(" + p + ", " + p + ")", desk.same(p, p), false);
        }
    }

    /** The first of each two is greater than the second, never the other way round. */
    private static void dueGreater(Bench bench, String[][] all) {
        for (String[] one : all) {
            Bench.due(one[0] + " > " + one[1], bench.greater(one[0], one[1]), true);
            Bench.due(one[1] + " > " + one[0], bench.greater(one[1], one[0]), false);
        }
    }

    private static void dueNeither(Bench bench, String[][] all) {
        for (String[] one : all) {
            Bench.due(one[0] + " > " + one[1], bench.greater(one[0], one[1]), false);
            Bench.due(one[1] + " > " + one[0], bench.greater(one[1], one[0]), false);
        }
    }

    private static void greater() {
        Bench bench = new Bench("a0 b0 f1 g2 c2!");
        dueGreater(bench, new String[][] {
            {"f(x0)", "x0"}, {"g(a,f(x3))", "x3"}, {"b", "a"}, {"f(a)", "b"}, {"f(f(a))", "f(a)"}, {"f(b)", "f(a)"},
            {"g(b,a)", "g(a,b)"}, {"g(x0,b)", "g(x0,a)"}, {"g(g(x0,x1),x2)", "g(x0,g(x1,x2))"},
            {"g(x0,x1)", "f(x1)"}, {"g(x0,a)", "f(f(f(b)))"}, {"f(c(a,b))", "c(a,b)"}, {"f(c(a,b))", "c(a,a)"},
            {"g(a,c(b,b))", "c(a,b)"}, {"g(f(x0),x1)", "g(x0,f(f(x1)))"}, {"g(b,g(a,g(b,b)))", "g(b,g(b,b))"},
        });
        dueNeither(bench, new String[][] {
            {"x0", "x0"}, {"x0", "x1"}, {"x0", "a"}, {"f(x0)", "x1"}, {"a", "a"}, {"f(x0)", "f(x0)"},
            {"g(x0,x1)", "g(x1,x0)"}, {"f(x0)", "g(a,x1)"}, {"g(x0,a)", "f(x1)"}, {"f(f(x0))", "g(x1,x1)"},
            {"g(f(x0),x1)", "g(x0,x2)"}, {"c(x0,x0)", "g(x1,x1)"},
        });
    }

    private static void greaterOfCommutative() {
        Bench bench = new Bench("a0 b0 f1 g2 c2!");
        dueGreater(bench, new String[][] {
            {"c(b,b)", "c(a,b)"}, {"c(a,b)", "c(a,a)"}, {"c(a,f(a))", "c(b,b)"}, {"c(x0,f(x1))", "c(x0,x1)"},
            {"c(f(x0),a)", "c(x0,b)"}, {"c(f(x0),f(x1))", "c(x0,x1)"}, {"c(x0,f(x1))", "c(x1,x0)"},
            {"c(f(x0),g(x1,x1))", "c(x1,f(x0))"}, {"c(x0,x1)", "g(x0,x1)"}, {"c(x0,c(x0,x1))", "c(x0,x1)"},
            {"c(b,f(a))", "c(a,f(a))"}, {"c(b,f(a))", "c(b,b)"}, {"c(g(a,a),g(a,a))", "c(f(a),f(f(b)))"}, {"c(g(x0,x1),a)", "c(f(x0),f(x1))"},
        });
        dueNeither(bench, new String[][] {
            {"c(x0,x1)", "c(x0,x1)"}, {"c(x0,x0)", "c(x0,x1)"}, {"c(x0,c(x1,x2))", "c(x2,c(x0,x1))"},
            {"c(f(x0),x1)", "c(x0,f(x1))"}, {"c(f(x0),a)", "c(x0,x1)"}, {"c(f(x0),f(x0))", "c(x1,x0)"},
        });
        // One for one: of c(b,b) and c(a,b) only one b is lost on each side.
        Bench.due("c(b,b) > c(b,f(a))", bench.greater("c(b,b)", "c(b,f(a))"), false);
        Bench.due("c(b,f(a)) > c(b,b)", bench.greater("c(b,f(a))", "c(b,b)"), true);
    }

    private static void greaterOfLongTerms() {
        Bench bench = new Bench("a0 b0 f1 g2");
        String low = "f(".repeat(23) + "a" + ")".repeat(23);
        String high = "f(".repeat(23) + "b" + ")".repeat(23);
        dueGreater(bench, new String[][] {{high, low}, {high, "b"}, {"g(x0,x1)", high}});
        dueNeither(bench, new String[][] {{high, high}, {high, "x0"}});
    }

    private static void wrongOrder() {
        Bench bench = new Bench("a0 f1");
        bench.put(0, "f(a)");
        int[] nowhere = {-1, 16, MIN, MAX};
        for (int p : nowhere) {
            Bench.due("greater(0, " + p + ")", bench.desk.greater(0, p), false);
            Bench.due("greater(" + p + ", 1)", bench.desk.greater(p, 1), false);
        }
    }
}
