/**
 * Edges of terms and of the order, promises 1 to 8: a test for each sentence of the document that
 * names one, with the last value that is taken, the first one that is refused, and that a refused
 * call changes nothing.
 */
public final class TermEdgesTest {
    private static final int MIN = Integer.MIN_VALUE;
    private static final int MAX = Integer.MAX_VALUE;
    private static final int[] NOWHERE = {-1, 16, MIN, MAX};
    private static final int[] EVERY_END = {0, 15};

    private TermEdgesTest() { }

    public static void main(String[] args) {
        newObjectIsEmpty();
        tenSymbols();
        arities();
        commutativeArity();
        sixVariables();
        placesOfVariables();
        symbolsOfTerms();
        placesOfTerms();
        placesBeyondTheArity();
        nodesOfTerms();
        sortedTerms();
        placesOfSizes();
        nodesAndTheirPlaces();
        nodesTell();
        placesOfSame();
        placesOfGreater();
        orderOfVariables();
        orderByAnArgument();
        orderByNumbers();
        orderByFirstArguments();
        orderOfCommutative();
        Bench.finish("TermEdgesTest");
    }

    /** "No symbols, rules, pairs." "PLACES 0 .. 15, at first variable 0 everywhere." */
    private static void newObjectIsEmpty() {
        Bench bench = new Bench("");
        EquationDesk desk = bench.desk;
        for (int i = 0; i < 16; i++) {
            Bench.due("place " + i, bench.show(i), "x0");
        }
        bench.mark();
        Bench.due("term of symbol 0", desk.term(0, 0, 0, 0), false);
        Bench.due("rule 0", desk.rule(0, false, 0), false);
        Bench.due("right of rule 0", desk.rule(0, true, 0), false);
        Bench.due("pair 0", desk.pair(0, false, 0), false);
        Bench.due("second of pair 0", desk.pair(0, true, 0), false);
        Bench.due("rules()", desk.rules(), 0);
        Bench.due("waiting()", desk.waiting(), 0);
        Bench.due("complete(30)", desk.complete(30), 1);
        Bench.due("prove(0, 15)", desk.prove(0, 15), 1);
        bench.dueAsMarked("calls on what isn't there");
        Bench.due("the first symbol", desk.symbol(2, true), 0);
    }

    /** "NONE if there are 10": whatever else it is; the ten stay as they were. */
    private static void tenSymbols() {
        EquationDesk desk = new EquationDesk();
        for (int i = 0; i < 8; i++) {
            Bench.due("symbol " + i, desk.symbol(0, false), i);
        }
        Bench.due("symbol 8", desk.symbol(2, true), 8);
        Bench.due("symbol 9", desk.symbol(1, false), 9);
        for (int arity = -1; arity <= 3; arity++) {
            Bench.due("an eleventh", desk.symbol(arity, false), -1);
            Bench.due("an eleventh", desk.symbol(arity, true), -1);
        }
        Bench.due("symbol 10 isn't there", desk.term(1, 10, 0, 0), false);
        Bench.due("symbol 9 is", desk.term(1, 9, 0, 16), true);
        Bench.due("of arity 1 still", desk.size(1), 2);
        Bench.due("symbol 0 is", desk.term(2, 0, 16, 16), true);
        Bench.due("of arity 0 still", desk.size(2), 1);
        Bench.due("symbol 8 is", desk.term(3, 8, 1, 2), true);
        Bench.due("commutative still", desk.node(3, 1), 0);
    }

    /** "there is no such arity": 0 .. 2 are; a refused one takes no number. */
    private static void arities() {
        EquationDesk desk = new EquationDesk();
        int[] none = {-1, 3, MIN, MAX, 4, -2};
        for (int i = 0; i < 3; i++) {
            Bench.due("arity " + i, desk.symbol(i, false), i);
            for (int arity : none) {
                Bench.due("arity " + arity, desk.symbol(arity, false), -1);
                Bench.due("arity " + arity + ", commutative", desk.symbol(arity, true), -1);
            }
        }
        Bench.due("the next", desk.symbol(0, false), 3);
        Bench.due("f", desk.term(0, 1, 0, 16), true);
        Bench.due("it has", desk.size(0), 2);
        Bench.due("g", desk.term(0, 2, 0, 0), true);
        Bench.due("it has", desk.size(0), 5);
    }

    /** "it is commutative and of another arity than 2" */
    private static void commutativeArity() {
        EquationDesk desk = new EquationDesk();
        Bench.due("arity 2", desk.symbol(2, true), 0);
        Bench.due("arity 1", desk.symbol(1, true), -1);
        Bench.due("arity 0", desk.symbol(0, true), -1);
        Bench.due("arity 3", desk.symbol(3, true), -1);
        Bench.due("arity 2", desk.symbol(2, true), 1);
        Bench.due("arity 2, not commutative", desk.symbol(2, false), 2);
        desk.variable(1, 1);
        for (int symbol = 0; symbol < 3; symbol++) {
            Bench.due("of x1 and x0", desk.term(2, symbol, 1, 0), true);
            Bench.due("it begins with", desk.node(2, 1), symbol < 2 ? 100 : 101);
        }
    }

    /** "A place gets a variable; false if there are none such": variables 0 .. 5. */
    private static void sixVariables() {
        Bench bench = new Bench("a0");
        for (int v = 0; v <= 5; v++) {
            Bench.due("variable " + v, bench.desk.variable(3, v), true);
            Bench.due("it is", bench.desk.node(3, 0), 100 + v);
            Bench.due("it has", bench.desk.size(3), 1);
        }
        bench.mark();
        int[] none = {-1, 6, 12, 100, MIN, MAX};
        for (int v : none) {
            Bench.due("variable " + v, bench.desk.variable(3, v), false);
        }
        bench.dueAsMarked("no such variable");
    }

    /** The same of places 0 .. 15. */
    private static void placesOfVariables() {
        Bench bench = new Bench("a0");
        for (int place : EVERY_END) {
            Bench.due("place " + place, bench.desk.variable(place, 4), true);
            Bench.due("it", bench.show(place), "x4");
        }
        bench.mark();
        for (int place : NOWHERE) {
            Bench.due("place " + place, bench.desk.variable(place, 1), false);
            Bench.due("place and variable", bench.desk.variable(place, place), false);
        }
        bench.dueAsMarked("no such place");
    }

    /** "A place gets a symbol ..; false if there are none such": 0 .. 9, of those that there are. */
    private static void symbolsOfTerms() {
        Bench bench = new Bench("");
        EquationDesk desk = bench.desk;
        for (int i = 0; i < 10; i++) {
            Bench.due("symbol " + i + " too early", desk.term(2, i, 0, 0), false);
            Bench.due("symbol " + i, desk.symbol(0, false), i);
            Bench.due("symbol " + i + " then", desk.term(1, i, 0, 0), true);
            Bench.due("it", desk.node(1, 0), i);
        }
        int[] none = {-1, 10, 11, 100, MIN, MAX};
        for (int symbol : none) {
            Bench.due("symbol " + symbol, desk.term(2, symbol, 0, 0), false);
        }
        Bench.due("the place stays", desk.node(2, 0), 100);
        Bench.due("another one stays", desk.node(1, 0), 9);
    }

    /** The same of places, of the term and of its arguments. */
    private static void placesOfTerms() {
        Bench bench = new Bench("a0 f1 g2 c2!");
        EquationDesk desk = bench.desk;
        for (int place : EVERY_END) {
            for (int other : EVERY_END) {
                desk.variable(0, 1);
                desk.variable(15, 3);
                Bench.due("g of " + place + " and " + other, desk.term(7, 2, place, other), true);
                Bench.due("it", bench.show(7), "g(x" + (place == 0 ? 1 : 3) + ",x" + (other == 0 ? 1 : 3) + ")");
                Bench.due("f of " + other + " to " + place, desk.term(place, 1, other, -1), true);
                Bench.due("it", bench.show(place), "f(x" + (other == 0 ? 1 : 3) + ")");
            }
        }
        bench.mark();
        for (int place : NOWHERE) {
            for (int symbol = 0; symbol < 4; symbol++) {
                Bench.due("to " + place, desk.term(place, symbol, 0, 0), false);
            }
            Bench.due("f of " + place, desk.term(3, 1, place, 0), false);
            Bench.due("g of " + place, desk.term(3, 2, place, 0), false);
            Bench.due("g of .. and " + place, desk.term(3, 2, 0, place), false);
            Bench.due("c of " + place, desk.term(3, 3, place, 0), false);
            Bench.due("c of .. and " + place, desk.term(3, 3, 0, place), false);
        }
        bench.dueAsMarked("no such place");
    }

    /** "(those beyond its arity mean nothing)" */
    private static void placesBeyondTheArity() {
        Bench bench = new Bench("a0 f1");
        for (int first : NOWHERE) {
            for (int second : NOWHERE) {
                bench.desk.variable(4, 2);
                Bench.due("a", bench.desk.term(4, 0, first, second), true);
                Bench.due("it", bench.show(4), "a");
                Bench.due("f", bench.desk.term(4, 1, 4, second), true);
                Bench.due("it", bench.show(4), "f(a)");
            }
        }
    }

    /** "or it would have more than 24 nodes" */
    private static void nodesOfTerms() {
        Bench bench = new Bench("a0 f1 g2 c2!");
        EquationDesk desk = bench.desk;
        bench.put(0, Bench.chain(24, "a")).put(1, Bench.chain(23, "a")).put(2, Bench.chain(22, "a"));
        bench.put(3, Bench.chain(11, "a")).put(4, Bench.chain(12, "a")).put(5, "a");
        int[][] sums = {{2, 5}, {5, 2}, {3, 4}, {4, 3}};
        for (int[] one : sums) {
            for (int symbol = 2; symbol <= 3; symbol++) {
                desk.variable(6, 0);
                Bench.due("24 by two", desk.term(6, symbol, one[0], one[1]), true);
                Bench.due("they are", desk.size(6), 24);
            }
        }
        Bench.due("24 by one", desk.term(6, 1, 1, 0), true);
        Bench.due("they are", desk.size(6), 24);
        bench.mark();
        Bench.due("25 by one", desk.term(6, 1, 0, 0), false);
        Bench.due("25 by one, of itself", desk.term(0, 1, 0, 0), false);
        int[][] more = {{1, 5}, {5, 1}, {4, 4}, {2, 3}, {0, 0}, {0, 5}, {5, 0}};
        for (int[] one : more) {
            for (int symbol = 2; symbol <= 3; symbol++) {
                Bench.due("more by two", desk.term(7, symbol, one[0], one[1]), false);
            }
        }
        bench.dueAsMarked("too many nodes");
    }

    /** "the first one isn't behind the second one": by each thing that tells, one step apart. */
    private static void sortedTerms() {
        String[][] all = {
            {"x5", "a"}, {"x4", "x5"}, {"a", "b"}, {"x0", "x1"}, {"b", "f(x0)"}, {"f(x5)", "f(a)"}, {"f(x0)", "f(x1)"},
            {"f(c(b,b))", "g(x0,x0)"}, {"g(x0,b)", "g(x1,x0)"}, {"g(x5,b)", "g(a,x0)"}, {"g(a,x5)", "g(a,a)"},
            {"g(b,a)", "g(b,b)"}, {"g(f(b),x0)", "g(g(x0,x0),x0)"}, {"c(x0,x1)", "c(x1,x1)"}, {"c(x0,f(x0))", "c(x0,f(x1))"},
        };
        for (String[] one : all) {
            Bench bench = new Bench("a0 b0 f1 g2 c2!");
            String due = "c(" + one[0] + "," + one[1] + ")";
            Bench.due("in order", bench.put(0, due).show(0), due);
            Bench.due("in the other one", bench.put(1, "c(" + one[1] + "," + one[0] + ")").show(1), due);
            Bench.due("the same", bench.desk.same(0, 1), true);
            String other = "g(" + one[1] + "," + one[0] + ")";
            Bench.due("not commutative", bench.put(2, other).show(2), other);
        }
    }

    /** "How many nodes a place's term has; NONE if there is none such": 1 .. 24. */
    private static void placesOfSizes() {
        Bench bench = new Bench("a0 f1");
        bench.put(15, Bench.chain(24, "x5"));
        Bench.due("size(0)", bench.desk.size(0), 1);
        Bench.due("size(15)", bench.desk.size(15), 24);
        bench.mark();
        for (int place : NOWHERE) {
            Bench.due("size(" + place + ")", bench.desk.size(place), -1);
        }
        bench.dueAsMarked("no such place");
    }

    /** "NONE if there is none such": of a node, 0 .. one below the size, and of a place. */
    private static void nodesAndTheirPlaces() {
        Bench bench = new Bench("a0 f1");
        EquationDesk desk = bench.desk;
        bench.put(15, Bench.chain(24, "x5")).put(0, Bench.chain(23, "a"));
        Bench.due("node(15, 23)", desk.node(15, 23), 105);
        Bench.due("node(0, 22)", desk.node(0, 22), 0);
        Bench.due("node(15, 0)", desk.node(15, 0), 1);
        Bench.due("node(1, 0)", desk.node(1, 0), 100);
        bench.mark();
        Bench.due("node(15, 24)", desk.node(15, 24), -1);
        Bench.due("node(0, 23)", desk.node(0, 23), -1);
        Bench.due("node(1, 1)", desk.node(1, 1), -1);
        int[] none = {-1, MIN, MAX};
        for (int node : none) {
            Bench.due("node(15, " + node + ")", desk.node(15, node), -1);
            Bench.due("node(1, " + node + ")", desk.node(1, node), -1);
        }
        for (int place : NOWHERE) {
            Bench.due("node(" + place + ", 0)", desk.node(place, 0), -1);
            Bench.due("node(" + place + ", .. )", desk.node(place, place), -1);
        }
        bench.dueAsMarked("no such node");
    }

    /** "A node: its symbol, or 100 and its variable": 0 .. 9, 100 .. 105. */
    private static void nodesTell() {
        EquationDesk desk = new EquationDesk();
        for (int i = 0; i < 10; i++) {
            desk.symbol(0, false);
            desk.term(1, i, 0, 0);
            Bench.due("symbol", desk.node(1, 0), i);
        }
        for (int v = 0; v < 6; v++) {
            desk.variable(1, v);
            Bench.due("variable", desk.node(1, 0), 100 + v);
        }
    }

    /** "Whether terms of two places are the same; false if there are none such." */
    private static void placesOfSame() {
        Bench bench = new Bench("a0 f1");
        EquationDesk desk = bench.desk;
        Bench.due("same(0, 15)", desk.same(0, 15), true);
        Bench.due("same(15, 0)", desk.same(15, 0), true);
        bench.put(0, Bench.chain(24, "x0")).put(1, Bench.chain(24, "x1")).put(2, Bench.chain(23, "x0"));
        bench.put(3, Bench.chain(24, "a")).put(15, Bench.chain(24, "x0"));
        Bench.due("the same to the last node", desk.same(0, 15), true);
        Bench.due("but for the last node", desk.same(0, 1), false);
        Bench.due("but for the last node", desk.same(0, 3), false);
        Bench.due("shorter", desk.same(0, 2), false);
        Bench.due("longer", desk.same(2, 0), false);
        bench.mark();
        for (int place : NOWHERE) {
            Bench.due("same(" + place + ", 0)", desk.same(place, 0), false);
            Bench.due("same(15, " + place + ")", desk.same(15, place), false);
            Bench.due("same(" + place + ", .. )", desk.same(place, place), false);
        }
        bench.dueAsMarked("no such place");
    }

    /** "Whether a place's term is GREATER than another one's; false if there are none such." */
    private static void placesOfGreater() {
        Bench bench = new Bench("a0 f1");
        EquationDesk desk = bench.desk;
        bench.put(15, Bench.chain(24, "x0")).put(0, Bench.chain(23, "x0"));
        Bench.due("greater(15, 0)", desk.greater(15, 0), true);
        Bench.due("greater(0, 15)", desk.greater(0, 15), false);
        bench.put(0, "x0");
        Bench.due("the last node", desk.greater(15, 0), true);
        bench.mark();
        for (int place : NOWHERE) {
            Bench.due("greater(" + place + ", 0)", desk.greater(place, 0), false);
            Bench.due("greater(15, " + place + ")", desk.greater(15, place), false);
            Bench.due("greater(" + place + ", .. )", desk.greater(place, place), false);
        }
        bench.dueAsMarked("no such place");
    }

    private static void due(Bench bench, String s, String t, boolean above) {
        Bench.due(s + " > " + t, bench.greater(s, t), above);
    }

    /** "if t is a variable, and s another term in which it occurs" */
    private static void orderOfVariables() {
        Bench bench = new Bench("a0 f1 g2 c2!");
        due(bench, "f(x0)", "x0", true);
        due(bench, "x0", "x0", false);
        due(bench, "x1", "x0", false);
        due(bench, "f(x1)", "x0", false);
        due(bench, "a", "x0", false);
        due(bench, "x0", "a", false);
        due(bench, "x0", "f(x0)", false);
        due(bench, "c(x5,g(a,x4))", "x4", true);
        due(bench, "c(x5,g(a,x4))", "x3", false);
    }

    /** "an argument of s is the same as t, or greater": even if t's symbol is above. */
    private static void orderByAnArgument() {
        Bench bench = new Bench("f1 g2 a0 b0 h1");
        due(bench, "f(h(x0))", "h(x0)", true);
        due(bench, "f(h(x1))", "h(x0)", false);
        due(bench, "g(x1,h(x0))", "h(x0)", true);
        due(bench, "g(h(x0),x1)", "h(x0)", true);
        due(bench, "f(h(a))", "b", true);
        due(bench, "f(b)", "b", true);
        due(bench, "f(a)", "b", false);
        due(bench, "b", "b", false);
    }

    /** "f's number is above g's, and s is greater than each argument of t" */
    private static void orderByNumbers() {
        Bench bench = new Bench("a0 b0 g2 h2 k2");
        due(bench, "b", "a", true);
        due(bench, "a", "b", false);
        due(bench, "a", "a", false);
        due(bench, "h(x0,x1)", "g(x1,x0)", true);
        due(bench, "h(x0,x1)", "g(x0,x2)", false);
        due(bench, "h(x0,x1)", "g(x2,x0)", false);
        due(bench, "h(x0,x1)", "k(x0,x1)", false);
        due(bench, "k(a,a)", "h(b,g(b,b))", true);
    }

    /** "the first arguments that aren't the same are such that that of s is greater" */
    private static void orderByFirstArguments() {
        Bench bench = new Bench("a0 b0 f1 g2");
        due(bench, "g(b,a)", "g(a,b)", true);
        due(bench, "g(a,b)", "g(b,a)", false);
        due(bench, "g(a,b)", "g(a,a)", true);
        due(bench, "g(a,a)", "g(a,a)", false);
        due(bench, "g(x0,b)", "g(x1,a)", false);
        due(bench, "g(f(x0),a)", "g(x0,f(x0))", true);
        due(bench, "g(f(x0),a)", "g(x0,x1)", false);
        due(bench, "f(b)", "f(a)", true);
        due(bench, "f(a)", "f(a)", false);
    }

    /** "both having lost arguments that are the same (one for one), .. and s has some left" */
    private static void orderOfCommutative() {
        Bench bench = new Bench("a0 b0 f1 c2!");
        due(bench, "c(a,b)", "c(a,b)", false);
        due(bench, "c(b,b)", "c(a,b)", true);
        due(bench, "c(a,b)", "c(b,b)", false);
        due(bench, "c(b,b)", "c(a,a)", true);
        due(bench, "c(a,f(x0))", "c(x0,f(x0))", false);
        due(bench, "c(x0,f(x0))", "c(x0,x0)", true);
        due(bench, "c(x0,f(f(x0)))", "c(f(x0),f(x0))", true);
        due(bench, "c(x1,f(x0))", "c(x0,x0)", true);
        due(bench, "c(x1,x0)", "c(x0,x2)", false);
        due(bench, "c(x0,f(x1))", "c(x1,f(x0))", false);
    }
}
