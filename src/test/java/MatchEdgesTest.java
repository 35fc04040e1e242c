import java.util.function.Supplier;

/**
 * Edges of matches, unifiers and FUEL, promises 9 to 12: a test for each sentence of the document
 * that names one, with the last value that is taken, the first one that is refused, and that a
 * refused call changes nothing but what the document says.
 */
public final class MatchEdgesTest {
    private static final int MIN = Integer.MIN_VALUE;
    private static final int MAX = Integer.MAX_VALUE;
    private static final int[] NOWHERE = {-1, 16, MIN, MAX};
    private static final int[] NO_VARIABLE = {-1, 6, MIN, MAX};
    private static final int[] NO_NUMBER = {-1, 2, MIN, MAX};
    private static final int ALL = 120000;

    private MatchEdgesTest() { }

    public static void main(String[] args) {
        boundVariables();
        commutativeMatches();
        likeMatches();
        placesOfMatches();
        matchesWithoutFuel();
        placesOfMatch();
        variablesOfMatch();
        numbersOfMatch();
        unboundVariables();
        fuelThatMatchTakes();
        matchWithoutFuel();
        sameAndVariables();
        occurring();
        placesOfUnifiers();
        thirtyTwoUnifiers();
        thousandWays();
        bindingOnTheWay();
        unifiersWithoutFuel();
        placesOfUnifier();
        numbersOfUnifier();
        nodesOfUnifier();
        unifierOfTooMany();
        fuelThatUnifierTakes();
        unifierWithoutFuel();
        allTheFuel();
        fuelOutForGood();
        costOfAPair();
        costWithBindings();
        Bench.finish("MatchEdgesTest");
    }

    /** c(x0,x1) in place 0, c(a,f(a)) in place 1, which have two matches and two unifiers. */
    private static Bench two() {
        return new Bench("a0 f1 g2 c2!").put(0, "c(x0,x1)").put(1, "c(a,f(a))");
    }

    private static Bench with(int fuel) {
        Bench bench = two();
        Bench.due("spent", bench.spend(ALL - fuel), true);
        return bench.put(0, "c(x0,x1)").put(1, "c(a,f(a))");
    }

    private static void dueCost(String what, Supplier<Bench> before, Supplier<Bench> after, int cost) {
        Bench.due("cost of " + what, Bench.fuel(before) - Bench.fuel(after), cost);
    }

    private static void dueOut(Bench bench) {
        EquationDesk desk = bench.desk;
        bench.put(2, "x0").put(3, "x1");
        Bench.due("matches(2, 2)", desk.matches(2, 2), -1);
        Bench.due("match(2, 2, 0, 0, 4)", desk.match(2, 2, 0, 0, 4), false);
        Bench.due("unifiers(2, 2)", desk.unifiers(2, 2), 33);
        Bench.due("unifiers(2, 3)", desk.unifiers(2, 3), 33);
        Bench.due("unifier(2, 2, 0, 4)", desk.unifier(2, 2, 0, 4), false);
    }

    /** "a variable without a binding gets the term's part; one that has one must have the same" */
    private static void boundVariables() {
        Bench bench = new Bench("a0 b0 f1 g2");
        Bench.due("x5", bench.match("x5", "x0", 0), "x5=x0");
        Bench.due("itself", bench.match("x0", "x0", 0), "x0=x0");
        Bench.due("the same", bench.matches("g(x0,x0)", "g(f(a),f(a))"), 1);
        Bench.due("another", bench.matches("g(x0,x0)", "g(f(a),f(b))"), 0);
        Bench.due("another variable", bench.matches("g(x0,x0)", "g(x0,x1)"), 0);
        Bench.due("the term's x1 is no variable", bench.match("g(x0,x1)", "g(x1,x0)", 0), "x0=x1 x1=x0");
        Bench.due("the term's x0 isn't bound", bench.matches("a", "x0"), 0);
        Bench.due("another symbol", bench.matches("a", "b"), 0);
    }

    /** "of a commutative symbol that is gone through to its end, then .. crosswise" */
    private static void commutativeMatches() {
        Bench bench = new Bench("a0 b0 f1 g2 c2!");
        Bench.due("first with first", bench.match("c(x0,x1)", "c(a,b)", 0), "x0=a x1=b");
        Bench.due("crosswise", bench.match("c(x0,x1)", "c(a,b)", 1), "x0=b x1=a");
        Bench.due("no third", bench.match("c(x0,x1)", "c(a,b)", 2), "none");
        Bench.due("not commutative", bench.match("g(x0,x1)", "g(a,b)", 0), "x0=a x1=b");
        Bench.due("no second", bench.match("g(x0,x1)", "g(a,b)", 1), "none");
        Bench.due("crosswise alone", bench.match("c(b,x0)", "c(a,b)", 0), "x0=a");
    }

    /** "it is a match, unless one like it was found before" */
    private static void likeMatches() {
        Bench bench = new Bench("a0 b0 f1 g2 c2!");
        Bench.due("both ways alike", bench.matches("c(x0,x1)", "c(a,a)"), 1);
        Bench.due("no variables", bench.matches("c(a,a)", "c(a,a)"), 1);
        Bench.due("one like it", bench.matches("g(c(x0,x1),c(a,a))", "g(c(a,b),c(a,a))"), 2);
    }

    /** "NONE if there are none such" */
    private static void placesOfMatches() {
        Bench bench = two();
        EquationDesk desk = bench.desk;
        Bench.due("matches(0, 15)", desk.matches(0, 15), 0);
        Bench.due("matches(15, 0)", desk.matches(15, 0), 1);
        Bench.due("matches(15, 15)", desk.matches(15, 15), 1);
        dueCost("no such places", MatchEdgesTest::two, () -> {
            Bench other = two().mark();
            for (int place : NOWHERE) {
                Bench.due("matches(" + place + ", 0)", other.desk.matches(place, 0), -1);
                Bench.due("matches(0, " + place + ")", other.desk.matches(0, place), -1);
                Bench.due("matches(" + place + ", .. )", other.desk.matches(place, place), -1);
            }
            other.dueAsMarked("no such place");
            return other;
        }, 0);
    }

    /** "or the FUEL is OUT": both matches cost 7 and twice 5, 17; one less and there is none. */
    private static void matchesWithoutFuel() {
        Bench bench = with(17).mark();
        Bench.due("17 of 17", bench.desk.matches(0, 1), 2);
        Bench.due("none left", bench.desk.matches(2, 2), -1);
        bench.dueAsMarked("no FUEL");
        bench = with(16).mark();
        Bench.due("17 of 16", bench.desk.matches(0, 1), -1);
        bench.dueAsMarked("no FUEL");
        dueOut(bench);
    }

    /** "false if there are no such places .. (nothing is taken then)" */
    private static void placesOfMatch() {
        Bench bench = two();
        EquationDesk desk = bench.desk;
        bench.put(15, "x3").put(14, "f(a)");
        Bench.due("match(15, 0, .. )", desk.match(15, 0, 0, 3, 0), true);
        bench.put(0, "x3");
        Bench.due("match(0, 14, .., 15)", desk.match(0, 14, 0, 3, 15), true);
        Bench.due("it", bench.show(15), "f(a)");
        dueCost("no such places", MatchEdgesTest::two, () -> {
            Bench other = two().mark();
            for (int place : NOWHERE) {
                Bench.due("pattern " + place, other.desk.match(place, 1, 0, 0, 2), false);
                Bench.due("term " + place, other.desk.match(0, place, 0, 0, 2), false);
                Bench.due("to " + place, other.desk.match(0, 1, 0, 0, place), false);
            }
            other.dueAsMarked("no such place");
            return other;
        }, 0);
    }

    /** "false if there are no such .. variable (nothing is taken then)" */
    private static void variablesOfMatch() {
        Bench bench = two();
        bench.put(0, "c(x0,x5)");
        Bench.due("variable 0", bench.desk.match(0, 1, 0, 0, 2), true);
        Bench.due("it", bench.show(2), "a");
        Bench.due("variable 5", bench.desk.match(0, 1, 0, 5, 2), true);
        Bench.due("it", bench.show(2), "f(a)");
        dueCost("no such variable", MatchEdgesTest::two, () -> {
            Bench other = two().mark();
            for (int variable : NO_VARIABLE) {
                Bench.due("variable " + variable, other.desk.match(0, 1, 0, variable, 2), false);
            }
            other.dueAsMarked("no such variable");
            return other;
        }, 0);
    }

    /** "or match": 0 and 1 are there. */
    private static void numbersOfMatch() {
        Bench bench = two();
        Bench.due("match 0", bench.desk.match(0, 1, 0, 0, 2), true);
        Bench.due("it", bench.show(2), "a");
        Bench.due("match 1", bench.desk.match(0, 1, 1, 0, 2), true);
        Bench.due("it", bench.show(2), "f(a)");
        bench.mark();
        for (int i : NO_NUMBER) {
            Bench.due("match " + i, bench.desk.match(0, 1, i, 0, 2), false);
            Bench.due("match " + i + " of none", bench.desk.match(1, 0, i, 0, 2), false);
        }
        Bench.due("match 0 of none", bench.desk.match(1, 0, 0, 0, 2), false);
        bench.dueAsMarked("no such match");
    }

    /** "or it isn't bound": nor is any in a pattern without it. */
    private static void unboundVariables() {
        Bench bench = two();
        bench.put(3, "f(a)").put(4, "f(x2)").mark();
        for (int variable = 2; variable < 6; variable++) {
            Bench.due("variable " + variable, bench.desk.match(0, 1, 0, variable, 2), false);
        }
        for (int variable = 0; variable < 6; variable++) {
            Bench.due("f(a) and f(a)", bench.desk.match(3, 3, 0, variable, 2), false);
            Bench.due("none at all", bench.desk.match(3, 4, 0, variable, 2), false);
        }
        bench.dueAsMarked("not bound");
    }

    /** "(all matches are looked for)": 17, whichever one is asked for, and if there is none such. */
    private static void fuelThatMatchTakes() {
        int[][] calls = {{0, 0}, {1, 0}, {1, 1}, {2, 0}, {-1, 0}, {MAX, 0}, {0, 2}, {0, 5}, {2, 5}};
        for (int[] one : calls) {
            dueCost("match " + one[0] + " variable " + one[1], MatchEdgesTest::two, () -> {
                Bench bench = two();
                Bench.due("match", bench.desk.match(0, 1, one[0], one[1], 2),
                    one[0] >= 0 && one[0] < 2 && one[1] < 2);
                return bench;
            }, 17);
        }
    }

    /** "or the FUEL is OUT": even if the match that is asked for was found. */
    private static void matchWithoutFuel() {
        Bench bench = with(17);
        Bench.due("17 of 17", bench.desk.match(0, 1, 0, 0, 2), true);
        bench = with(16).mark();
        Bench.due("17 of 16", bench.desk.match(0, 1, 0, 0, 2), false);
        bench.dueAsMarked("no FUEL");
        dueOut(bench);
    }

    /** "both the same: nothing; one a variable (or both: then the one with the greater number)" */
    private static void sameAndVariables() {
        Bench bench = new Bench("a0 b0 f1 g2 c2!");
        Bench.due("the same variable", bench.unifier("x5", "x5", 0), "x5");
        Bench.due("the greater number first", bench.unifier("x5", "x4", 0), "x4");
        Bench.due("the greater number second", bench.unifier("x4", "x5", 0), "x4");
        Bench.due("a variable first", bench.unifier("x0", "a", 0), "a");
        Bench.due("a variable second", bench.unifier("a", "x0", 0), "a");
        Bench.due("commutative and the same: one way", bench.unifiers("c(x0,x1)", "c(x0,x1)"), 1);
        Bench.due("the same once the bindings are put in",
            bench.unifiers("g(x0,c(x0,x1))", "g(a,c(a,x1))"), 1);
        Bench.due("not the same: both ways", bench.unifiers("g(x0,c(x0,x1))", "g(a,c(a,x2))"), 2);
        Bench.due("put into older ones", bench.unifier("g(x0,x1)", "g(f(x1),b)", 0), "g(f(b),b)");
    }

    /** "unless it occurs in that: then no unifier is found that way" */
    private static void occurring() {
        Bench bench = new Bench("a0 f1 g2 c2!");
        Bench.due("in itself", bench.unifiers("x0", "f(x0)"), 0);
        Bench.due("the other way round", bench.unifiers("f(x0)", "x0"), 0);
        Bench.due("not in another", bench.unifiers("x0", "f(x1)"), 1);
        Bench.due("once the bindings are put in", bench.unifiers("g(x0,x1)", "g(f(x1),f(x0))"), 0);
        Bench.due("another way is found", bench.unifiers("c(x0,x1)", "c(f(x0),a)"), 1);
        Bench.due("at the last of 24 nodes", bench.unifiers("x0", Bench.chain(24, "x0")), 0);
        Bench.due("in another of 24 nodes", bench.unifiers("x0", Bench.chain(24, "x1")), 1);
    }

    /** "NONE if there are no such places." */
    private static void placesOfUnifiers() {
        Bench bench = two();
        EquationDesk desk = bench.desk;
        Bench.due("unifiers(0, 15)", desk.unifiers(0, 15), 0);
        bench.put(15, "c(x2,x3)");
        Bench.due("unifiers(0, 15)", desk.unifiers(0, 15), 2);
        Bench.due("unifiers(15, 0)", desk.unifiers(15, 0), 2);
        dueCost("no such places", MatchEdgesTest::two, () -> {
            Bench other = two().mark();
            for (int place : NOWHERE) {
                Bench.due("unifiers(" + place + ", 0)", other.desk.unifiers(place, 0), -1);
                Bench.due("unifiers(0, " + place + ")", other.desk.unifiers(0, place), -1);
                Bench.due("unifiers(" + place + ", .. )", other.desk.unifiers(place, place), -1);
            }
            other.dueAsMarked("no such place");
            return other;
        }, 0);
    }

    private static Bench constants() {
        return new Bench("c2! a0 b0 d0 e0 g0 f1");
    }

    /** "33 if they are too many (as LIMIT says)": "more than 32" */
    private static void thirtyTwoUnifiers() {
        Bench bench = constants();
        Bench.due("31", bench.unifiers("c(c(c(x0,x5),c(x2,e)),c(c(x2,a),c(x5,d)))",
            "c(c(x3,c(x2,x5)),c(x4,c(x0,x1)))"), 31);
        String a = "c(c(x4,c(x2,a)),c(c(x0,e),c(x0,g)))";
        String b = "c(c(x3,c(x2,x5)),c(x4,c(x0,x1)))";
        Bench.due("32", bench.unifiers(a, b), 32);
        Bench.due("the last of them", bench.unifier(a, b, 31).equals("none"), false);
        Bench.due("one more", bench.unifier(a, b, 32), "none");
        String more = "c(c(x4,c(a,g)),c(c(x0,e),c(x0,g)))";
        String other = "c(c(x4,c(x0,x1)),c(c(x0,x3),c(x2,x5)))";
        bench.put(0, more).put(1, other).mark();
        Bench.due("33", bench.desk.unifiers(0, 1), 33);
        Bench.due("the first of them", bench.desk.unifier(0, 1, 0, 2), false);
        Bench.due("the last of them", bench.desk.unifier(0, 1, 32, 2), false);
        bench.dueAsMarked("33 unifiers");
        Bench.due("FUEL is left", bench.unifiers("x0", "x1"), 1);
    }

    /** "more than 1000 ways, each of them .. gone to its end, be it a unifier or not" */
    private static void thousandWays() {
        Bench bench = new Bench("c2! a0 b0 d0 e0 g2");
        Bench.due("1000, of which none is a unifier", bench.unifiers(
            "c(c(c(x0,x5),c(x4,x5)),c(c(c(x0,x2),c(x2,x5)),c(c(x1,x2),c(a,d))))",
            "c(c(c(x5,x5),c(x5,x5)),c(c(c(x0,x0),c(x3,x5)),c(c(x3,x3),c(e,e))))"), 0);
        String a = "c(c(c(x0,x5),c(x4,x5)),c(c(c(x0,x2),c(x2,x5)),c(c(x1,x2),c(x3,a))))";
        String b = "c(c(c(x5,x5),c(x5,x5)),c(c(c(x0,x0),c(x3,x4)),c(c(x3,x3),c(e,e))))";
        bench.put(0, a).put(1, b).mark();
        Bench.due("1001, of which none is", bench.desk.unifiers(0, 1), 33);
        Bench.due("nor is it given", bench.desk.unifier(0, 1, 0, 2), false);
        bench.dueAsMarked("1001 ways");
        Bench.due("FUEL is left", bench.unifiers("x0", "x1"), 1);
        Bench.due("matches have no such limit", bench.matches(
            "c(c(c(x0,x0),c(x0,x0)),c(c(c(x0,x0),c(x0,x0)),c(c(x0,x0),c(x0,x0))))",
            "c(c(c(a,a),c(a,a)),c(c(c(a,a),c(a,a)),c(c(a,a),c(a,a))))"), 1);
    }

    /** "or a binding of more than 24 nodes on the way": new, or by what is put into it. */
    private static void bindingOnTheWay() {
        Bench bench = new Bench("a0 b0 f1 g2");
        String eleven = "g(" + "g(a,g(a,a))" + "," + "g(a,g(a,a))" + ")";
        String seven = "g(a,g(a,g(a,a)))";
        String[][] all = {
            {"g(x0,x1)", "g(" + eleven + ",f(g(x0,x0)))"}, {"g(x1,x0)", "g(f(g(x0,x0))," + eleven + ")"},
            {"x0", Bench.chain(24, "x1")}, {"g(x0,x1)", "g(" + seven + ",g(f(x0),g(x0,x0)))"},
        };
        for (String[] one : all) {
            Bench.due("24: " + one[0] + " " + one[1], bench.unifiers(one[0], one[1]), 1);
        }
        String[][] more = {
            {"g(x0,x1)", "g(" + eleven + ",f(f(g(x0,x0))))"}, {"g(x1,x0)", "g(f(f(g(x0,x0)))," + eleven + ")"},
            {"g(g(x0,x1),a)", "g(g(" + eleven + ",g(x0,g(x0,x0))),b)"},
        };
        for (String[] one : more) {
            bench = new Bench("a0 b0 f1 g2");
            bench.put(0, one[0]).put(1, one[1]).mark();
            Bench.due("more: " + one[0] + " " + one[1], bench.desk.unifiers(0, 1), 33);
            Bench.due("no unifier", bench.desk.unifier(0, 1, 0, 2), false);
            bench.dueAsMarked("a long binding");
        }
        Bench.due("no binding since it occurs",
            bench.unifiers("g(x0,x1)", "g(f(" + eleven + "),g(x1,g(x0,x0)))"), 0);
        Bench.due("none any more", bench.unifiers("g(a,g(x0,x1))", "g(b,g(" + eleven + ",g(x0,g(x0,x0))))"), 0);
    }

    /** "33 if .. the FUEL is OUT": both unifiers cost 17 too. */
    private static void unifiersWithoutFuel() {
        Bench bench = with(17).mark();
        Bench.due("17 of 17", bench.desk.unifiers(0, 1), 2);
        Bench.due("none left", bench.desk.unifiers(2, 2), 33);
        bench.dueAsMarked("no FUEL");
        bench = with(16).mark();
        Bench.due("17 of 16", bench.desk.unifiers(0, 1), 33);
        bench.dueAsMarked("no FUEL");
        dueOut(bench);
        Bench.due("no such place is first", bench.desk.unifiers(0, 16), -1);
        Bench.due("no such place is first", bench.desk.unifiers(-1, 1), -1);
    }

    /** "false if there are no such places (nothing is taken then)" */
    private static void placesOfUnifier() {
        Bench bench = two();
        EquationDesk desk = bench.desk;
        bench.put(15, "c(x3,x4)");
        Bench.due("unifier(15, 0, .. )", desk.unifier(15, 0, 0, 0), true);
        Bench.due("it", bench.show(0), "c(x0,x1)");
        Bench.due("unifier(0, 1, .., 15)", desk.unifier(0, 1, 1, 15), true);
        Bench.due("it", bench.show(15), "c(a,f(a))");
        dueCost("no such places", MatchEdgesTest::two, () -> {
            Bench other = two().mark();
            for (int place : NOWHERE) {
                Bench.due("a is " + place, other.desk.unifier(place, 1, 0, 2), false);
                Bench.due("b is " + place, other.desk.unifier(0, place, 0, 2), false);
                Bench.due("to " + place, other.desk.unifier(0, 1, 0, place), false);
            }
            other.dueAsMarked("no such place");
            return other;
        }, 0);
    }

    /** "or unifier": 0 and 1 are there. */
    private static void numbersOfUnifier() {
        Bench bench = two();
        bench.put(0, "g(x0,c(x0,x1))").put(1, "g(x0,c(a,f(a)))");
        Bench.due("unifier 0", bench.desk.unifier(0, 1, 0, 2), true);
        Bench.due("it", bench.show(2), "g(a,c(a,f(a)))");
        Bench.due("unifier 1", bench.desk.unifier(0, 1, 1, 2), true);
        Bench.due("it", bench.show(2), "g(f(a),c(a,f(a)))");
        bench.put(3, "a").mark();
        for (int i : NO_NUMBER) {
            Bench.due("unifier " + i, bench.desk.unifier(0, 1, i, 2), false);
            Bench.due("unifier " + i + " of none", bench.desk.unifier(0, 3, i, 2), false);
        }
        Bench.due("unifier 0 of none", bench.desk.unifier(0, 3, 0, 2), false);
        bench.dueAsMarked("no such unifier");
    }

    /** "or it would have more than 24 nodes" */
    private static void nodesOfUnifier() {
        Bench bench = new Bench("a0 f1 g2");
        String seven = "g(a,g(a,g(a,a)))";
        bench.put(0, "f(g(x0,g(x0,x0)))").put(1, "f(g(" + seven + ",x1))");
        Bench.due("24 nodes", bench.desk.unifier(0, 1, 0, 2), true);
        Bench.due("they are", bench.desk.size(2), 24);
        bench.put(0, "f(f(g(x0,g(x0,x0))))").put(1, "f(f(g(" + seven + ",x1)))").put(2, "f(a)").mark();
        Bench.due("there is one", bench.desk.unifiers(0, 1), 1);
        Bench.due("of 25 nodes", bench.desk.unifier(0, 1, 0, 2), false);
        Bench.due("of 25 nodes, over its own", bench.desk.unifier(0, 1, 0, 0), false);
        Bench.due("of b's term too", bench.desk.unifier(1, 0, 0, 2), false);
        bench.dueAsMarked("a long instance");
        bench.put(1, "x1");
        Bench.due("it is a's term that counts", bench.desk.unifier(1, 0, 0, 2), true);
        Bench.due("it", bench.show(2), "f(f(g(x0,g(x0,x0))))");
    }

    /** "unifiers() would be 33": though the one that is asked for was found before. */
    private static void unifierOfTooMany() {
        Bench bench = new Bench("a0 f1 g2 c2!");
        String eleven = "g(" + "g(a,g(a,a))" + "," + "g(a,g(a,a))" + ")";
        String a = "g(c(x0,x1),x2)";
        bench.put(0, a).put(1, "g(c(a," + eleven + "),g(x1,x1))");
        Bench.due("two, of at most 23 nodes", bench.desk.unifiers(0, 1), 2);
        bench.put(1, "g(c(" + eleven + ",a),g(x0,g(x0,x0)))").mark();
        Bench.due("the second one's binding is long", bench.desk.unifiers(0, 1), 33);
        Bench.due("nor is the first one given", bench.desk.unifier(0, 1, 0, 2), false);
        bench.dueAsMarked("33");
    }

    /** 17, whichever one is asked for, and if there is none such, or it would be too long. */
    private static void fuelThatUnifierTakes() {
        int[] numbers = {0, 1, 2, -1, MIN, MAX};
        for (int i : numbers) {
            dueCost("unifier " + i, MatchEdgesTest::two, () -> {
                Bench bench = two();
                Bench.due("unifier " + i, bench.desk.unifier(0, 1, i, 2), i == 0 || i == 1);
                return bench;
            }, 17);
        }
        // Both terms; x0 with 8 nodes; the rest, with these put in, with x1.
        dueCost("a long instance", MatchEdgesTest::two, () -> {
            Bench bench = two();
            bench.put(0, "g(x0,g(x0,x0))").put(1, "g(" + Bench.chain(8, "a") + ",x1)");
            Bench.due("26 nodes", bench.desk.unifier(0, 1, 0, 2), false);
            return bench;
        }, 5 + 10 + 1 + 8 + 17 + 1);
    }

    /** The same of "the FUEL is OUT", which makes unifiers() 33. */
    private static void unifierWithoutFuel() {
        Bench bench = with(17);
        Bench.due("17 of 17", bench.desk.unifier(0, 1, 0, 2), true);
        bench = with(16).mark();
        Bench.due("17 of 16", bench.desk.unifier(0, 1, 0, 2), false);
        bench.dueAsMarked("no FUEL");
        dueOut(bench);
    }

    /** "a desk has 120000 at first": 120000 are taken, and no 120001st. */
    private static void allTheFuel() {
        Bench.due("of a new desk", Bench.fuel(MatchEdgesTest::two), ALL);
        Bench bench = two();
        Bench.due("all", bench.spend(ALL), true);
        dueOut(bench);
        bench = two();
        Bench.due("but for 1", bench.spend(ALL - 1), true);
        dueOut(bench);
        bench = two();
        Bench.due("but for 2", bench.spend(ALL - 2), true);
        bench.put(2, "x0");
        Bench.due("2 of 2", bench.desk.unifiers(2, 2), 1);
        dueOut(bench);
    }

    /** "if less is left, the FUEL is OUT for good": what would have been enough isn't any more. */
    private static void fuelOutForGood() {
        for (int way = 0; way < 4; way++) {
            Bench bench = two();
            Bench.due("but for 47", bench.spend(ALL - 47), true);
            bench.put(0, Bench.chain(24, "x0")).put(2, "x0");
            Bench.due("2 of 47", bench.desk.matches(2, 2), 1);
            Bench.due("48 of 45", way == 0 ? bench.desk.matches(0, 0) : way == 1 ? bench.desk.unifiers(0, 0) - 34
                : way == 2 ? (bench.desk.match(0, 0, 0, 0, 3) ? 0 : -1) : (bench.desk.unifier(0, 0, 0, 3) ? 0 : -1), -1);
            dueOut(bench);
        }
    }

    private static void dueCost(String a, String b, int matching, int unifying) {
        dueCost(a + " matches " + b, MatchEdgesTest::two, () -> {
            Bench bench = two();
            bench.matches(a, b);
            return bench;
        }, matching);
        dueCost(a + " unifies with " + b, MatchEdgesTest::two, () -> {
            Bench bench = two();
            bench.unifiers(a, b);
            return bench;
        }, unifying);
    }

    /** "Each pair that is taken .. costs as many as both its parts have nodes" */
    private static void costOfAPair() {
        dueCost("x0", "x1", 2, 2);
        dueCost("x0", Bench.chain(24, "x1"), 25, 25);
        dueCost("a", "f(a)", 3, 3);
        dueCost("f(a)", "f(a)", 6, 4);
        dueCost("g(a,x0)", "g(f(a),f(f(a)))", 12, 12);
        dueCost("c(a,f(a))", "c(a,f(a))", 8 + 2 + 4 + 2 + 3, 8);
    }

    /** "(of unifiers: with the bindings put in)" */
    private static void costWithBindings() {
        // g 3 + 7, then x0 1 + 3; the second x0 has 1 for matches, 3 for unifiers, with 3.
        dueCost("g(x0,x0)", "g(f(f(a)),f(f(a)))", 10 + 4 + 4, 10 + 4 + 6);
        // x0 with f(x1), x1 with a, then x0, which is f(a) by now, with x2.
        dueCost("g(g(x0,x1),x0)", "g(g(f(x1),a),x2)", 11 + 7 + 3 + 2 + 2, 11 + 7 + 3 + 2 + 3);
    }
}
