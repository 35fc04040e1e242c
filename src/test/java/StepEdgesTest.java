import java.util.function.Supplier;

/**
 * Edges of pairs, steps, rules, reduced terms and proofs, promises 13 to 20: a test for each
 * sentence of the document that names one, with the last value that is taken, the first one that
 * is refused, and that a refused call changes nothing but what the document says.
 */
public final class StepEdgesTest {
    private static final int MIN = Integer.MIN_VALUE;
    private static final int MAX = Integer.MAX_VALUE;
    private static final int[] NOWHERE = {-1, 16, MIN, MAX};
    private static final int[] NO_STEPS = {0, -1, 31, MIN, MAX};
    private static final int ALL = 120000;
    private static final String FIVE = "g(a,g(a,a))";
    private static final String ELEVEN = "g(" + FIVE + "," + FIVE + ")";

    private StepEdgesTest() { }

    public static void main(String[] args) {
        placesOfEquations();
        sixtyPairs();
        sixVariables();
        thirtySteps();
        otherNumbersOfSteps();
        untilNoPairWaits();
        answersInOrder();
        limitFirst();
        fewestNodesTogether();
        sameTermsGo();
        rulesThatGo();
        nodesThatAreLookedAt();
        numbersOfRules();
        placesOfRules();
        numbersOfPairs();
        placesOfPairs();
        placesOfReduce();
        nodesOfReduce();
        sortedAfterARewriting();
        rulesThatAreLookedAt();
        reduceWithoutFuel();
        placesOfProve();
        proofs();
        firstOneFirst();
        fiveHundredAndTwelveCalls();
        Bench.finish("StepEdgesTest");
    }

    private static void dueCost(String what, Supplier<Bench> before, Supplier<Bench> after, int cost) {
        Bench.due("cost of " + what, Bench.fuel(before) - Bench.fuel(after), cost);
    }

    /** "false if there are none such" */
    private static void placesOfEquations() {
        Bench bench = new Bench("a0 f1");
        bench.put(0, "f(x3)").put(15, "x3");
        Bench.due("equation(0, 15)", bench.desk.equation(0, 15), true);
        Bench.due("equation(15, 0)", bench.desk.equation(15, 0), true);
        Bench.due("pairs", bench.pairs(), "f(x0) = x0; x0 = f(x0)");
        bench.mark();
        for (int place : NOWHERE) {
            Bench.due("equation(" + place + ", 0)", bench.desk.equation(place, 0), false);
            Bench.due("equation(0, " + place + ")", bench.desk.equation(0, place), false);
            Bench.due("equation(" + place + ", .. )", bench.desk.equation(place, place), false);
        }
        bench.dueAsMarked("no such place");
    }

    /** "or 60 wait" */
    private static void sixtyPairs() {
        Bench bench = new Bench("a0 b0");
        bench.put(0, "a").put(1, "b");
        for (int i = 1; i <= 60; i++) {
            Bench.due("equation " + i, bench.desk.equation(i == 60 ? 1 : 0, i == 60 ? 0 : 1), true);
            Bench.due("waiting()", bench.desk.waiting(), i);
        }
        for (int i = 0; i < 3; i++) {
            Bench.due("one more", bench.desk.equation(i == 0 ? 0 : 1, i == 1 ? 0 : 1), false);
            Bench.due("of no place", bench.desk.equation(16, 0), false);
        }
        Bench.due("waiting()", bench.desk.waiting(), 60);
        Bench.due("the first", bench.pair(0), "a = b");
        Bench.due("the last but one", bench.pair(58), "a = b");
        Bench.due("the last", bench.pair(59), "b = a");
        Bench.due("none behind it", bench.pair(60), "none");
        Bench.due("two steps: a rule, and its own pair goes", bench.desk.complete(2), 0);
        Bench.due("waiting()", bench.desk.waiting(), 59);
        Bench.due("there is room", bench.desk.equation(0, 0), true);
        Bench.due("for one", bench.desk.equation(0, 0), false);
        Bench.due("waiting()", bench.desk.waiting(), 60);
    }

    /** "RENAMED are two terms by their variables": all six of them, and none. */
    private static void sixVariables() {
        Bench bench = new Bench("a0 f1 g2 c2!");
        bench.equation("g(x5,g(x4,x3))", "g(x2,g(x1,x0))");
        Bench.due("six", bench.pair(0), "g(x0,g(x1,x2)) = g(x3,g(x4,x5))");
        bench.equation("a", "a");
        Bench.due("none", bench.pair(1), "a = a");
        bench.equation("x5", "x5");
        Bench.due("one", bench.pair(2), "x0 = x0");
        bench.equation("c(g(x2,x1),g(x2,x2))", "x1");
        Bench.due("sorted again", bench.pair(3), "c(g(x0,x0),g(x0,x1)) = x1");
        bench = new Bench("a0 f1 k2 g2");
        bench.equation("g(x0,g(x1,g(x2,g(x3,g(x4,f(x5))))))", "k(x5,k(a,x0))");
        Bench.due("complete(1)", bench.desk.complete(1), 0);
        Bench.due("a rule of six", bench.reduced("g(x5,g(a,g(a,g(a,g(a,f(f(x1)))))))"), "k(f(x1),k(a,x5))");
    }

    /** "At most n STEPS (0 .. 30 .. )" */
    private static void thirtySteps() {
        Bench bench = new Bench("a0 b0");
        bench.put(0, "a");
        for (int i = 0; i < 33; i++) {
            bench.desk.equation(0, 0);
        }
        Bench.due("complete(0)", bench.desk.complete(0), 0);
        Bench.due("waiting()", bench.desk.waiting(), 33);
        Bench.due("complete(1)", bench.desk.complete(1), 0);
        Bench.due("waiting()", bench.desk.waiting(), 32);
        Bench.due("complete(30)", bench.desk.complete(30), 0);
        Bench.due("waiting()", bench.desk.waiting(), 2);
        Bench.due("complete(1)", bench.desk.complete(1), 0);
        Bench.due("complete(1), the last one", bench.desk.complete(1), 1);
        Bench.due("complete(1), none", bench.desk.complete(1), 1);
        for (int i = 0; i < 30; i++) {
            bench.desk.equation(0, 0);
        }
        Bench.due("complete(30), the last one", bench.desk.complete(30), 1);
        Bench.due("waiting()", bench.desk.waiting(), 0);
    }

    /** "(0 .. 30; else as with 0)": no step is done, whatever is answered then. */
    private static void otherNumbersOfSteps() {
        for (int n : NO_STEPS) {
            Bench bench = new Bench("a0 b0 g2 f1");
            Bench.due("none waits", bench.desk.complete(n), 1);
            bench.equation("b", "a");
            bench.mark();
            Bench.due("one waits", bench.desk.complete(n), 0);
            bench.dueAsMarked("complete(" + n + ")");
            Bench.due("it is done", bench.desk.complete(30), 1);
            bench.equation("g(x0,x1)", "g(x1,x0)");
            bench.mark();
            Bench.due("none is tried", bench.desk.complete(n), 0);
            Bench.due("one is tried", bench.desk.complete(1), 2);
            Bench.due("none is tried again", bench.desk.complete(n), 0);
            bench.dueAsMarked("complete(" + n + ")");
        }
    }

    /** "until no pair waits": then nothing is tried, and nothing is taken. */
    private static void untilNoPairWaits() {
        Supplier<Bench> made = () -> {
            Bench bench = new Bench("a0 b0 f1");
            bench.equation("f(x0)", "a");
            bench.equation("f(f(b))", "f(b)");
            Bench.due("all go", bench.desk.complete(30), 1);
            return bench;
        };
        dueCost("no steps", made, () -> {
            Bench bench = made.get().mark();
            Bench.due("complete(30)", bench.desk.complete(30), 1);
            bench.dueAsMarked("no steps");
            return bench;
        }, 0);
    }

    /** "0 if pairs wait still, 1 if none, 2 if a step was tried that can't be done .., 3 .." */
    private static void answersInOrder() {
        Bench bench = new Bench("a0 b0 e0 g2 f1");
        bench.equation("a", "a");
        bench.equation("b", "b");
        bench.equation("g(x0,x1)", "g(x1,x0)");
        Bench.due("two steps, then one that can't be done", bench.desk.complete(2), 0);
        Bench.due("waiting()", bench.desk.waiting(), 1);
        Bench.due("it is tried", bench.desk.complete(1), 2);
        bench.equation("a", "a");
        Bench.due("one before it, and none more", bench.desk.complete(1), 0);
        bench.equation("a", "a");
        Bench.due("one before it, then it", bench.desk.complete(2), 2);
        Bench.due("waiting()", bench.desk.waiting(), 1);
        bench.equation("f(x0)", "g(x0,x0)");
        Bench.due("a rule, then it", bench.desk.complete(30), 2);
        Bench.due("waiting()", bench.desk.waiting(), 2);
        bench.equation("f(f(f(f(a))))", "b");
        Bench.due("a LIMIT would come later", bench.desk.complete(30), 2);
        bench.equation("f(f(f(a)))", "f(f(f(f(a))))");
        Bench.due("and later", bench.desk.complete(30), 2);
    }

    /** "3 if a LIMIT was met, now or before (this first)", and steps before it in the call stay. */
    private static void limitFirst() {
        Bench bench = new Bench("a0 b0 e0 g2 f1");
        bench.equation("f(x0)", "g(x0,x0)");
        bench.equation("f(f(f(f(f(a)))))", "a");
        bench.equation("g(g(x0,x1),g(x2,x3))", "g(g(x1,x0),g(x3,x2))");
        Bench.due("now", bench.desk.complete(30), 3);
        Bench.due("rules", bench.rules(), "f(x0) -> g(x0,x0)");
        Bench.due("pairs", bench.pairs(),
            "f(f(f(f(f(a))))) = a; g(g(x0,x1),g(x2,x3)) = g(g(x1,x0),g(x3,x2))");
        bench.mark();
        for (int n = -1; n <= 31; n++) {
            Bench.due("before, complete(" + n + ")", bench.desk.complete(n), 3);
        }
        bench.dueAsMarked("a LIMIT before");
    }

    /** "one of which both terms have the fewest nodes together (of these the first one)" */
    private static void fewestNodesTogether() {
        Bench bench = new Bench("a0 b0 e0 f1");
        bench.equation("f(f(a))", "f(f(a))");
        bench.equation("f(b)", "f(f(b))");
        bench.equation("f(f(e))", "f(e)");
        bench.equation("f(f(f(a)))", "a");
        Bench.due("the first of three with 5", bench.desk.complete(1), 0);
        Bench.due("its rule", bench.rules(), "f(f(b)) -> f(b)");
        bench = new Bench("a0 b0 e0 f1");
        bench.equation("f(f(f(a)))", "f(b)");
        bench.equation("f(f(e))", "f(f(e))");
        bench.equation("f(f(b))", "f(a)");
        Bench.due("the last of three, with 5", bench.desk.complete(1), 0);
        Bench.due("its rule", bench.rules(), "f(f(b)) -> f(a)");
    }

    /** "If they are the same, it goes": no rule comes; "(if neither is greater .. waits on as it was)" */
    private static void sameTermsGo() {
        Bench bench = new Bench("a0 b0 g2 c2! f1");
        bench.equation("f(x0)", "x0");
        Bench.due("complete(30)", bench.desk.complete(30), 1);
        bench.equation("f(f(x0))", "f(x0)");
        bench.equation("c(f(a),b)", "c(b,a)");
        Bench.due("both go", bench.desk.complete(30), 1);
        Bench.due("rules", bench.rules(), "f(x0) -> x0");
        bench.equation("g(f(x0),x1)", "f(g(x1,x0))");
        bench.mark();
        Bench.due("neither is greater", bench.desk.complete(30), 2);
        bench.dueAsMarked("no order");
    }

    /** "of the new left term's symbol and with not fewer nodes, at which that matches" */
    private static void rulesThatGo() {
        String[][] all = {
            {"h(f(f(a)))", "f(f(a))", "goes"}, {"h(f(f(a)))", "f(f(x0))", "goes"}, {"h(f(a))", "f(f(x0))", "stays"},
            {"h(f(b))", "f(a)", "stays"}, {"h(f(a))", "h(f(x0))", "goes"}, {"h(f(x0))", "f(a)", "stays"},
            {"h(f(f(b)))", "f(b)", "goes"},
        };
        for (String[] one : all) {
            Bench bench = new Bench("i0 a0 b0 f1 h1");
            bench.equation(one[0], "i");
            Bench.due("complete(30)", bench.desk.complete(30), 1);
            String old = bench.rules();
            bench.equation(one[1], "i");
            Bench.due("complete(1)", bench.desk.complete(1), 0);
            String added = one[1] + " -> i";
            Bench.due(one[0] + " " + one[2] + " by " + one[1], bench.rules(),
                one[2].equals("goes") ? added : old + "; " + added);
            Bench.due("it waits", bench.pair(0).equals(one[0] + " = i"), one[2].equals("goes"));
        }
    }

    /**
     * The same by its FUEL, with that for its critical pairs: nodes of another symbol or with fewer nodes take
     * none; "(the first one ends the search)"; "(all matches at such a node are looked for)".
     */
    private static void nodesThatAreLookedAt() {
        Object[][] all = {
            {"h(f(b))", "f(f(x0))", (5 + 3) + (6 + 4 + 2) + (5 + 3)}, {"h(h(h(b)))", "f(f(x0))", (6 + 4 + 2) + (5 + 3)},
            {"h(f(f(b)))", "f(f(x0))", (6 + 4 + 2) + (6 + 4 + 2) + (5 + 3)}, {"h(f(f(b)))", "f(b)", (5 + 3) + (4 + 2) + 4},
            {"c(f(b),h(f(b)))", "f(b)", (4 + 2) + 4}, {"h(c(b,h(b)))", "c(x0,x1)", (7 + 5 + 5) + (6 + 4 + 4)},
        };
        for (Object[] one : all) {
            Supplier<Bench> made = () -> {
                Bench bench = new Bench("i0 b0 f1 h1 c2!");
                bench.equation((String) one[0], "i");
                Bench.due("complete(30)", bench.desk.complete(30), 1);
                return bench;
            };
            dueCost(one[1] + " and " + one[0], made, () -> {
                Bench bench = made.get();
                bench.equation((String) one[1], "i");
                Bench.due("complete(1)", bench.desk.complete(1), 0);
                return bench;
            }, (Integer) one[2]);
        }
    }

    /** Sixteen rules, which is as many as there can be, g(y,z) -> a. */
    private static Bench sixteenRules() {
        Bench bench = new Bench("a0 b0 d0 e0 i0 f1 g2");
        String letters = "bdei";
        for (int i = 0; i < 16; i++) {
            bench.equation("g(" + letters.charAt(i / 4) + "," + letters.charAt(i % 4) + ")", "a");
        }
        Bench.due("complete(30)", bench.desk.complete(30), 0);
        Bench.due("complete(30)", bench.desk.complete(30), 1);
        return bench;
    }

    /** "A place gets a rule's left or right term; false if there are none such": 0 .. 15 of 16. */
    private static void numbersOfRules() {
        Bench bench = sixteenRules();
        Bench.due("rules()", bench.desk.rules(), 16);
        Bench.due("rule 0", bench.rule(0), "g(b,b) -> a");
        Bench.due("rule 15", bench.rule(15), "g(i,i) -> a");
        bench.put(0, "f(x1)");
        int[] none = {-1, 16, MIN, MAX};
        for (int i : none) {
            Bench.due("rule " + i, bench.desk.rule(i, false, 0), false);
            Bench.due("right of rule " + i, bench.desk.rule(i, true, 0), false);
        }
        Bench.due("the place stays", bench.show(0), "f(x1)");
        Bench few = new Bench("a0 b0");
        few.equation("b", "a");
        Bench.due("rule 0 too early", few.desk.rule(0, false, 0), false);
        Bench.due("complete(1)", few.desk.complete(1), 0);
        Bench.due("rule 0", few.rule(0), "b -> a");
        few.mark();
        Bench.due("rule 1", few.desk.rule(1, false, 0), false);
        few.dueAsMarked("no such rule");
    }

    /** The same of places. */
    private static void placesOfRules() {
        Bench bench = new Bench("a0 f1");
        bench.equation("f(x2)", "x2");
        Bench.due("complete(30)", bench.desk.complete(30), 1);
        Bench.due("left to 0", bench.desk.rule(0, false, 0), true);
        Bench.due("it", bench.show(0), "f(x0)");
        Bench.due("left to 15", bench.desk.rule(0, false, 15), true);
        Bench.due("it", bench.show(15), "f(x0)");
        Bench.due("right to 15", bench.desk.rule(0, true, 15), true);
        Bench.due("it", bench.show(15), "x0");
        bench.mark();
        for (int place : NOWHERE) {
            Bench.due("left to " + place, bench.desk.rule(0, false, place), false);
            Bench.due("right to " + place, bench.desk.rule(0, true, place), false);
        }
        bench.dueAsMarked("no such place");
    }

    /** "the i-th pair that waits (from 0); false if there are none such" */
    private static void numbersOfPairs() {
        Bench bench = new Bench("a0 b0 f1");
        bench.equation("f(a)", "a");
        bench.mark();
        int[] none = {-1, 1, MIN, MAX};
        for (int i : none) {
            Bench.due("pair " + i, bench.desk.pair(i, false, 0), false);
            Bench.due("second of pair " + i, bench.desk.pair(i, true, 0), false);
        }
        bench.dueAsMarked("no such pair");
        bench.equation("b", "b");
        Bench.due("pair 1", bench.pair(1), "b = b");
        Bench.due("it goes", bench.desk.complete(1), 0);
        Bench.due("pair 1", bench.pair(1), "none");
        Bench.due("pair 0", bench.pair(0), "f(a) = a");
        for (int i = 0; i < 59; i++) {
            bench.desk.equation(6, 6);
        }
        Bench.due("pair 59", bench.pair(59), "f(a) = f(a)");
        Bench.due("pair 60", bench.pair(60), "none");
    }

    /** The same of places. */
    private static void placesOfPairs() {
        Bench bench = new Bench("a0 f1");
        bench.equation("f(x2)", "a");
        Bench.due("first to 0", bench.desk.pair(0, false, 0), true);
        Bench.due("it", bench.show(0), "f(x0)");
        Bench.due("first to 15", bench.desk.pair(0, false, 15), true);
        Bench.due("it", bench.show(15), "f(x0)");
        Bench.due("second to 15", bench.desk.pair(0, true, 15), true);
        Bench.due("it", bench.show(15), "a");
        bench.mark();
        for (int place : NOWHERE) {
            Bench.due("first to " + place, bench.desk.pair(0, false, place), false);
            Bench.due("second to " + place, bench.desk.pair(0, true, place), false);
        }
        bench.dueAsMarked("no such place");
    }

    /** f(x0) -> g(x0,x0), k(x0) -> a. */
    private static Bench twice() {
        Bench bench = new Bench("a0 h1 g2 f1 k1");
        bench.equation("f(x0)", "g(x0,x0)");
        bench.equation("k(x0)", "a");
        Bench.due("complete(30)", bench.desk.complete(30), 1);
        return bench;
    }

    /** "A place gets another one's term REDUCED; false if there are none such" */
    private static void placesOfReduce() {
        Bench bench = twice();
        bench.put(0, "f(a)");
        Bench.due("reduce(0, 15)", bench.desk.reduce(0, 15), true);
        Bench.due("it", bench.show(15), "g(a,a)");
        bench.put(15, "k(x3)");
        Bench.due("reduce(15, 0)", bench.desk.reduce(15, 0), true);
        Bench.due("it", bench.show(0), "a");
        Bench.due("reduce(15, 15)", bench.desk.reduce(15, 15), true);
        Bench.due("it", bench.show(15), "a");
        dueCost("no such places", StepEdgesTest::twice, () -> {
            Bench other = twice();
            other.put(0, "f(a)").mark();
            for (int place : NOWHERE) {
                Bench.due("reduce(" + place + ", 1)", other.desk.reduce(place, 1), false);
                Bench.due("reduce(0, " + place + ")", other.desk.reduce(0, place), false);
                Bench.due("reduce(" + place + ", .. )", other.desk.reduce(place, place), false);
            }
            other.dueAsMarked("no such place");
            return other;
        }, 0);
    }

    /** "on the way it had, as a whole, more than 24 nodes .. (the place stays)" */
    private static void nodesOfReduce() {
        Bench bench = twice();
        Bench.due("24", bench.reduced("h(f(" + ELEVEN + "))"), "h(g(" + ELEVEN + "," + ELEVEN + "))");
        Bench.due("24 on the way", bench.reduced("k(f(" + ELEVEN + "))"), "a");
        Bench.due("24 on the way, then fewer", bench.reduced("g(k(h(h(h(h(h(h(a)))))))," + "f(f(h(h(a)))))"),
            "g(a,g(g(h(h(a)),h(h(a))),g(h(h(a)),h(h(a)))))");
        String[] more = {
            "h(h(f(" + ELEVEN + ")))", "h(k(f(" + ELEVEN + ")))", "k(h(f(" + ELEVEN + ")))",
            "g(f(" + ELEVEN + "),k(a))", "k(g(f(" + ELEVEN + "),a))", "f(h(f(" + FIVE + ")))",
        };
        for (String term : more) {
            bench.put(0, term).put(1, "h(x1)").mark();
            Bench.due("25 of " + term, bench.desk.reduce(0, 1), false);
            Bench.due("25 of " + term + ", in its own place", bench.desk.reduce(0, 0), false);
            bench.dueAsMarked("too many nodes");
            Bench.due("no LIMIT of steps", bench.desk.complete(1), 1);
            bench = twice();
        }
        String ten = "h(g(a,g(a,g(a,g(a,a)))))";
        Bench.due("24, one argument after the other", bench.reduced("g(k(h(a)),h(f(" + ten + ")))"),
            "g(a,h(g(" + ten + "," + ten + ")))");
        Bench.due("26 if the other comes first", bench.reduced("g(h(f(" + ten + ")),k(h(a)))"), "none");
    }

    /**
     * "(Whatever is put into a term .., it is sorted again.)": so f(p(a)) comes first, becomes a,
     * and leaves room for what f(q(..)) becomes: 23 nodes, where it would have been 25.
     */
    private static void sortedAfterARewriting() {
        Bench bench = new Bench("a0 h1 g2 p1 q1 f1 c2! r2");
        bench.equation("f(p(x0))", "a");
        bench.equation("f(q(x0))", "g(q(x0),q(x0))");
        bench.equation("r(x0,x1)", "c(f(x0),f(x1))");
        Bench.due("complete(30)", bench.desk.complete(30), 1);
        Bench.due("rules()", bench.desk.rules(), 3);
        String ten = "q(" + Bench.chain(9, "a").replace('f', 'h') + ")";
        Bench.due("turned", bench.reduced("r(" + ten + ",p(a))"), "c(a,g(" + ten + "," + ten + "))");
        Bench.due("as it is", bench.reduced("r(p(a)," + ten + ")"), "c(a,g(" + ten + "," + ten + "))");
    }

    /** "only of those whose left term has its symbol and not more nodes": others take no FUEL. */
    private static void rulesThatAreLookedAt() {
        Supplier<Bench> made = () -> {
            Bench bench = new Bench("a0 b0 g2 f1");
            bench.equation("f(g(x0,b))", "a");
            Bench.due("complete(30)", bench.desk.complete(30), 1);
            return bench;
        };
        Object[][] all = {
            {"x0", 0}, {"a", 0}, {"g(a,g(a,a))", 0}, {"f(a)", 0}, {"f(f(a))", 0}, {"f(g(a,a))", 8 + 6 + 2 + 2},
            {"f(f(f(a)))", 4 + 4 + 3 + 3}, {"f(g(a,b))", 8 + 6 + 2 + 2}, {"f(f(f(f(a))))", 14 + 9 + 7},
        };
        for (Object[] one : all) {
            dueCost("reducing " + one[0], made, () -> {
                Bench bench = made.get();
                bench.reduced((String) one[0]);
                return bench;
            }, (Integer) one[1]);
        }
    }

    /** "or the FUEL is OUT and a pair must be taken (the place stays)" */
    private static void reduceWithoutFuel() {
        Supplier<Bench> made = () -> {
            Bench bench = new Bench("a0 b0 g2 f1");
            bench.equation("f(x0)", "a");
            Bench.due("complete(30)", bench.desk.complete(30), 1);
            return bench;
        };
        int left = Bench.fuel(made);
        Bench bench = made.get();
        Bench.due("but for 6", bench.spend(left - 6), true);
        bench.put(0, "f(b)").put(1, "g(x0,x1)");
        Bench.due("6 of 6", bench.desk.reduce(0, 2), true);
        Bench.due("it", bench.show(2), "a");
        bench = made.get();
        Bench.due("but for 5", bench.spend(left - 5), true);
        bench.put(0, "f(b)").put(1, "g(x0,x1)").put(2, "g(a,b)").put(3, "x4").mark();
        Bench.due("6 of 5", bench.desk.reduce(0, 2), false);
        Bench.due("and in its own place", bench.desk.reduce(0, 0), false);
        bench.dueAsMarked("no FUEL");
        Bench.due("a variable", bench.desk.reduce(3, 2), true);
        Bench.due("it", bench.show(2), "x4");
        Bench.due("of other symbols", bench.desk.reduce(1, 2), true);
        Bench.due("it", bench.show(2), "g(x0,x1)");
        Bench.due("two variables are proved", bench.desk.prove(3, 3), 1);
        bench.put(4, "x0");
        Bench.due("or are not", bench.desk.prove(3, 4), 0);
        Bench.due("one can't be reduced", bench.desk.prove(0, 3), 2);
        Bench.due("nor the other", bench.desk.prove(3, 0), 2);
    }

    /** "NONE if there are none such" */
    private static void placesOfProve() {
        Bench bench = twice();
        bench.put(0, "f(a)").put(15, "g(a,a)");
        Bench.due("prove(0, 15)", bench.desk.prove(0, 15), 1);
        Bench.due("prove(15, 0)", bench.desk.prove(15, 0), 1);
        dueCost("no such places", StepEdgesTest::twice, () -> {
            Bench other = twice();
            other.put(0, "f(a)").mark();
            for (int place : NOWHERE) {
                Bench.due("prove(" + place + ", 0)", other.desk.prove(place, 0), -1);
                Bench.due("prove(0, " + place + ")", other.desk.prove(0, place), -1);
                Bench.due("prove(" + place + ", .. )", other.desk.prove(place, place), -1);
            }
            other.dueAsMarked("no such place");
            return other;
        }, 0);
    }

    /** "1 if they are the same REDUCED, 0 if not, and no pair waits, 2 otherwise" */
    private static void proofs() {
        Bench bench = twice();
        bench.put(0, "f(a)").put(1, "g(a,a)").put(2, "g(a,x0)").mark();
        Bench.due("the same", bench.desk.prove(0, 1), 1);
        Bench.due("not the same, none waits", bench.desk.prove(0, 2), 0);
        bench.dueAsMarked("proofs");
        bench.put(3, "a");
        bench.desk.equation(3, 3);
        Bench.due("the same, one waits", bench.desk.prove(0, 1), 1);
        Bench.due("not the same, one waits", bench.desk.prove(0, 2), 2);
        Bench.due("it goes", bench.desk.complete(1), 1);
        Bench.due("not the same, none waits", bench.desk.prove(0, 2), 0);
        bench.put(4, "h(h(f(" + ELEVEN + ")))");
        Bench.due("the first can't be reduced, none waits", bench.desk.prove(4, 0), 2);
        Bench.due("the second can't be", bench.desk.prove(0, 4), 2);
        Bench.due("both can't be, and are the same", bench.desk.prove(4, 4), 2);
    }

    /** "(the first one is first)": if it can't be reduced, the second one takes nothing. */
    private static void firstOneFirst() {
        String tooLong = "h(h(f(" + ELEVEN + ")))";
        int first = 2 + 12 + 1 + 11;
        int second = 2 + 2 + 1 + 1;
        Supplier<Bench> made = StepEdgesTest::twice;
        dueCost("the first one", made, () -> {
            Bench bench = twice();
            Bench.due("prove", bench.prove(tooLong, "f(a)"), 2);
            return bench;
        }, first);
        dueCost("both", made, () -> {
            Bench bench = twice();
            Bench.due("prove", bench.prove("f(a)", tooLong), 2);
            return bench;
        }, first + second);
    }

    /** "An object is used for at most 512 calls after it has been made": the 512th is as ever. */
    private static void fiveHundredAndTwelveCalls() {
        EquationDesk desk = new EquationDesk();
        Bench.due("1 symbol", desk.symbol(0, false), 0);
        Bench.due("2 symbol", desk.symbol(2, true), 1);
        Bench.due("3 term", desk.term(1, 1, 0, 0), true);
        Bench.due("4 term", desk.term(2, 0, 0, 0), true);
        Bench.due("5 equation", desk.equation(1, 0), true);
        Bench.due("6 complete", desk.complete(30), 1);
        for (int call = 7; call < 500; call += 4) {
            Bench.due(call + " term", desk.term(3, 1, 2, 2), true);
            Bench.due(call + 1 + " matches", desk.matches(1, 3), 1);
            Bench.due(call + 2 + " reduce", desk.reduce(3, 4), true);
            Bench.due(call + 3 + " node", desk.node(4, 0), 0);
        }
        Bench.due("503 variable", desk.variable(5, 5), true);
        Bench.due("504 equation", desk.equation(4, 5), true);
        Bench.due("505 complete", desk.complete(30), 2);
        Bench.due("506 prove", desk.prove(3, 5), 2);
        Bench.due("507 unifiers", desk.unifiers(1, 3), 1);
        Bench.due("508 rule", desk.rule(0, false, 6), true);
        Bench.due("509 same", desk.same(1, 6), true);
        Bench.due("510 waiting", desk.waiting(), 1);
        Bench.due("511 greater", desk.greater(1, 0), true);
        Bench.due("512 size", desk.size(6), 3);
    }
}
