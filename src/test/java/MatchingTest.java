/** Promises 9 to 12: matches and unifiers, their order and what they bind. */
public final class MatchingTest {
    private static final int[] NOWHERE = {-1, 16, Integer.MIN_VALUE, Integer.MAX_VALUE};
    private static final String CONSTANTS = "c2! a0 b0 d0 e0 g2";

    private MatchingTest() { }

    public static void main(String[] args) {
        matches();
        matchesInOrder();
        matchesOfLongTerms();
        match();
        wrongMatches();
        unifiers();
        unifiersInOrder();
        unifierIsSorted();
        wrongUnifiers();
        tooManyUnifiers();
        tooManyWays();
        tooLongBinding();
        tooLongInstance();
        Bench.finish("MatchingTest");
    }

    private static void matches() {
        Bench bench = new Bench("a0 b0 f1 g2 c2! d2!");
        Object[][] all = {
            {"x0", "x0", 1}, {"x0", "x4", 1}, {"x3", "c(a,b)", 1}, {"a", "a", 1}, {"a", "b", 0}, {"a", "x0", 0},
            {"f(x0)", "x0", 0}, {"f(x0)", "f(f(a))", 1}, {"f(a)", "f(x0)", 0}, {"g(x0,x1)", "g(a,b)", 1},
            {"g(x0,x0)", "g(a,b)", 0}, {"g(x0,x0)", "g(f(x1),f(x1))", 1}, {"c(x0,x1)", "c(a,b)", 2},
            {"c(x0,x1)", "c(a,a)", 1}, {"c(x0,x0)", "c(a,b)", 0}, {"c(x0,x0)", "c(a,a)", 1}, {"c(x0,x1)", "d(a,b)", 0},
            {"c(x0,a)", "c(a,b)", 1}, {"c(x0,a)", "c(a,a)", 1}, {"c(x0,a)", "c(b,b)", 0}, {"c(a,b)", "c(b,a)", 1},
            {"c(c(x0,x1),x2)", "c(b,c(a,f(a)))", 2}, {"c(c(x0,x1),c(x2,x3))", "c(c(a,b),c(a,f(a)))", 8},
            {"c(c(x0,x1),c(x0,x2))", "c(c(a,b),c(a,f(a)))", 2}, {"c(g(x0,x1),g(x1,x0))", "c(g(a,b),g(b,a))", 2},
            {"c(x0,c(x1,x2))", "c(c(a,b),c(b,b))", 3}, {"g(c(x0,x1),c(x1,x0))", "g(c(a,b),c(a,b))", 2},
            {"c(x0,x1)", "c(x0,x1)", 2}, {"f(c(x0,f(x1)))", "f(c(f(a),f(b)))", 2},
        };
        for (Object[] one : all) {
            Bench.due("matches " + one[0] + " " + one[1], bench.matches((String) one[0], (String) one[1]),
                (Integer) one[2]);
        }
    }

    private static void dueMatches(Bench bench, String pattern, String term, String... due) {
        for (int i = 0; i < due.length; i++) {
            Bench.due("match " + i + " of " + pattern + " " + term, bench.match(pattern, term, i), due[i]);
        }
        Bench.due("one match more", bench.match(pattern, term, due.length), "none");
        Bench.due("matches", bench.matches(pattern, term), due.length);
    }

    private static void matchesOfLongTerms() {
        Bench bench = new Bench("c2! f1 a0");
        String leaves = "c(c(x0,x0),c(x0,x0))";
        String tree = "c(c(" + leaves + "," + leaves + "),c(x0,c(x0,x0)))";
        Bench.due("21 nodes", bench.matches(tree, tree), 1);
        String chain = "f(".repeat(23) + "x5" + ")".repeat(23);
        Bench.due("24 nodes", bench.match(chain, chain.replace("x5", "a"), 0), "x5=a");
        Bench.due("24 nodes", bench.match("x0", chain, 0), "x0=" + chain);
        Bench.due("24 nodes", bench.unifier("x0", chain, 0), chain);
    }

    private static void matchesInOrder() {
        Bench bench = new Bench("a0 b0 e0 f1 g2 c2!");
        dueMatches(bench, "c(x0,x1)", "c(b,a)", "x0=a x1=b", "x0=b x1=a");
        dueMatches(bench, "c(c(x0,x1),c(x2,x3))", "c(c(a,b),c(a,e))",
            "x0=a x1=b x2=a x3=e", "x0=a x1=b x2=e x3=a", "x0=b x1=a x2=a x3=e", "x0=b x1=a x2=e x3=a",
            "x0=a x1=e x2=a x3=b", "x0=a x1=e x2=b x3=a", "x0=e x1=a x2=a x3=b", "x0=e x1=a x2=b x3=a");
        bench = new Bench("a0 b0 e0 f1 g2 c2!");
        dueMatches(bench, "c(x1,c(x0,x5))", "c(c(a,b),c(e,e))",
            "x0=e x1=c(a,b) x5=e", "x0=a x1=c(e,e) x5=b", "x0=b x1=c(e,e) x5=a");
        dueMatches(bench, "g(c(x0,x1),x0)", "g(c(a,b),b)", "x0=b x1=a");
        dueMatches(bench, "c(f(x0),x1)", "c(f(a),f(x3))", "x0=a x1=f(x3)", "x0=x3 x1=f(a)");
        dueMatches(bench, "x2", "g(c(x1,a),f(x2))", "x2=g(c(x1,a),f(x2))");
    }

    private static void match() {
        Bench bench = new Bench("a0 b0 f1 c2!");
        EquationDesk desk = bench.desk;
        bench.put(0, "c(x2,x3)").put(1, "c(f(b),a)");
        Bench.due("match(0, 1, 1, 2, 4)", desk.match(0, 1, 1, 2, 4), true);
        Bench.due("it", bench.show(4), "f(b)");
        Bench.due("match(0, 1, 0, 3, 0), over the pattern", desk.match(0, 1, 0, 3, 0), true);
        Bench.due("it", bench.show(0), "f(b)");
        Bench.due("the term stays", bench.show(1), "c(a,f(b))");
        bench.put(0, "c(x2,x3)");
        Bench.due("not bound", desk.match(0, 1, 0, 0, 4), false);
        Bench.due("not bound", desk.match(0, 1, 0, 5, 4), false);
        Bench.due("match 2 of 2", desk.match(0, 1, 2, 2, 4), false);
        Bench.due("match -1", desk.match(0, 1, -1, 2, 4), false);
        Bench.due("match of none", desk.match(1, 0, 0, 2, 4), false);
        Bench.due("it stays", bench.show(4), "f(b)");
    }

    private static void wrongMatches() {
        Bench bench = new Bench("a0 c2!");
        EquationDesk desk = bench.desk;
        bench.put(0, "c(x0,x1)").put(1, "c(a,a)");
        for (int p : NOWHERE) {
            Bench.due("matches(" + p + ", 1)", desk.matches(p, 1), -1);
            Bench.due("matches(0, " + p + ")", desk.matches(0, p), -1);
            Bench.due("match(" + p + ", 1, 0, 0, 2)", desk.match(p, 1, 0, 0, 2), false);
            Bench.due("match(0, " + p + ", 0, 0, 2)", desk.match(0, p, 0, 0, 2), false);
            Bench.due("match(0, 1, 0, 0, " + p + ")", desk.match(0, 1, 0, 0, p), false);
            Bench.due("match(0, 1, " + p + ", 0, 2)", desk.match(0, 1, p, 0, 2), false);
            Bench.due("match(0, 1, 0, " + p + ", 2)", desk.match(0, 1, 0, p, 2), false);
        }
        Bench.due("match(0, 1, 0, 6, 2)", desk.match(0, 1, 0, 6, 2), false);
        Bench.due("it stays", bench.show(2), "x0");
    }

    private static void unifiers() {
        Bench bench = new Bench("a0 b0 f1 g2 c2! d2!");
        Object[][] all = {
            {"x0", "x0", 1}, {"x0", "x1", 1}, {"x0", "a", 1}, {"a", "x0", 1}, {"a", "a", 1}, {"a", "b", 0},
            {"f(x0)", "x0", 0}, {"x0", "f(x0)", 0}, {"f(x0)", "f(f(x1))", 1}, {"g(x0,x1)", "g(x1,f(x0))", 0},
            {"g(x0,x0)", "g(a,b)", 0}, {"g(x0,b)", "g(a,x1)", 1}, {"c(x0,x1)", "c(a,b)", 2}, {"c(x0,x1)", "c(a,a)", 1},
            {"c(x0,x0)", "c(a,b)", 0}, {"c(x0,a)", "c(x1,b)", 1}, {"c(x0,a)", "c(x1,a)", 2}, {"c(x0,x1)", "c(x0,x1)", 1},
            {"c(x0,x1)", "c(x2,x3)", 2}, {"c(x0,x1)", "d(x0,x1)", 0}, {"c(x0,x1)", "f(x0)", 0},
            {"c(x0,f(x0))", "c(x1,f(x1))", 1}, {"g(x0,c(x0,b))", "g(f(a),c(b,f(a)))", 1},
            {"c(f(x0),f(x1))", "c(f(a),x0)", 0}, {"c(x0,x1)", "c(x0,a)", 2},
        };
        for (Object[] one : all) {
            Bench.due("unifiers " + one[0] + " " + one[1], bench.unifiers((String) one[0], (String) one[1]),
                (Integer) one[2]);
        }
    }

    private static void dueUnifiers(Bench bench, String a, String b, String... due) {
        for (int i = 0; i < due.length; i++) {
            Bench.due("unifier " + i + " of " + a + " " + b, bench.unifier(a, b, i), due[i]);
        }
        Bench.due("one unifier more", bench.unifier(a, b, due.length), "none");
        Bench.due("unifiers", bench.unifiers(a, b), due.length);
    }

    private static void unifiersInOrder() {
        Bench bench = new Bench("a0 b0 e0 f1 g2 c2!");
        dueUnifiers(bench, "x1", "x0", "x0");
        dueUnifiers(bench, "x0", "x1", "x0");
        dueUnifiers(bench, "x3", "x5", "x3");
        dueUnifiers(bench, "f(x0)", "f(f(x1))", "f(f(x1))");
        dueUnifiers(bench, "g(x0,x1)", "g(x1,a)", "g(a,a)");
        dueUnifiers(bench, "g(x2,g(x1,x0))", "g(f(x1),g(f(x0),a))", "g(f(f(a)),g(f(a),a))");
        dueUnifiers(bench, "g(x0,c(x1,x2))", "g(x0,c(a,b))", "g(x0,c(a,b))", "g(x0,c(a,b))");
        dueUnifiers(bench, "g(x1,c(x1,x2))", "g(x1,c(a,b))", "g(a,c(a,b))", "g(b,c(a,b))");
        dueUnifiers(bench, "g(x3,g(x2,c(x0,x1)))", "g(x3,g(x2,c(x2,x3)))", "g(x1,g(x0,c(x0,x1)))", "g(x0,g(x1,c(x0,x1)))");
        dueUnifiers(bench, "g(g(x0,x1),c(c(x0,x1),e))", "g(g(x0,x1),c(c(a,b),e))", "g(g(a,b),c(e,c(a,b)))", "g(g(b,a),c(e,c(a,b)))");
        dueUnifiers(bench, "c(f(x0),f(x1))", "c(f(a),x2)", "c(f(x0),f(a))", "c(f(x1),f(a))");
    }

    private static void unifierIsSorted() {
        Bench bench = new Bench("a0 b0 f1 g2 c2!");
        dueUnifiers(bench, "g(x0,c(x0,a))", "g(f(b),x1)", "g(f(b),c(a,f(b)))");
        dueUnifiers(bench, "g(x5,c(x0,x5))", "g(x0,c(x0,x0))", "g(x0,c(x0,x0))");
        EquationDesk desk = bench.desk;
        bench.put(0, "c(x0,x1)").put(1, "c(f(a),b)");
        Bench.due("unifier(0, 1, 1, 0), over its own", desk.unifier(0, 1, 1, 0), true);
        Bench.due("it", bench.show(0), "c(b,f(a))");
    }

    private static void wrongUnifiers() {
        Bench bench = new Bench("a0 c2!");
        EquationDesk desk = bench.desk;
        bench.put(0, "c(x0,x1)").put(1, "c(a,a)");
        for (int p : NOWHERE) {
            Bench.due("unifiers(" + p + ", 1)", desk.unifiers(p, 1), -1);
            Bench.due("unifiers(0, " + p + ")", desk.unifiers(0, p), -1);
            Bench.due("unifier(" + p + ", 1, 0, 2)", desk.unifier(p, 1, 0, 2), false);
            Bench.due("unifier(0, " + p + ", 0, 2)", desk.unifier(0, p, 0, 2), false);
            Bench.due("unifier(0, 1, 0, " + p + ")", desk.unifier(0, 1, 0, p), false);
            Bench.due("unifier(0, 1, " + p + ", 2)", desk.unifier(0, 1, p, 2), false);
        }
        Bench.due("unifier(0, 1, 1, 2)", desk.unifier(0, 1, 1, 2), false);
        Bench.due("it stays", bench.show(2), "x0");
    }

    private static void tooManyUnifiers() {
        Bench bench = new Bench("c2! a0 b0 d0 e0 f0 g0 h0 i0");
        String a = "c(c(c(x0,x1),c(x2,x3)),c(x4,x5))";
        String b = "c(c(c(a,b),c(d,e)),c(c(f,g),c(h,i)))";
        Bench.due("five choices", bench.unifiers(a, b), 32);
        Bench.due("the last one", bench.unifier(a, b, 31), "c(c(c(a,b),c(d,e)),c(c(f,g),c(h,i)))");
        Bench.due("behind it", bench.unifier(a, b, 32), "none");
        String more = "c(c(x4,c(x0,a)),c(x4,c(x0,d)))";
        String other = "c(c(x4,c(x1,x5)),c(c(x0,x2),c(x0,x3)))";
        Bench.due("more than 32", bench.unifiers(more, other), 33);
        Bench.due("none of them", bench.unifier(more, other, 0), "none");
    }

    private static void tooManyWays() {
        Bench bench = new Bench(CONSTANTS);
        Bench.due("1000 ways", bench.unifiers(
            "c(c(c(x0,x5),c(x4,x5)),c(c(c(x0,x2),c(x2,x5)),c(c(x1,x2),c(a,d))))",
            "c(c(c(x5,x5),c(x5,x5)),c(c(c(x0,x0),c(x3,x5)),c(c(x3,x3),c(e,e))))"), 0);
        Bench.due("1001 ways", bench.unifiers(
            "c(c(c(x0,x5),c(x4,x5)),c(c(c(x0,x2),c(x2,x5)),c(c(x1,x2),c(x3,a))))",
            "c(c(c(x5,x5),c(x5,x5)),c(c(c(x0,x0),c(x3,x4)),c(c(x3,x3),c(e,e))))"), 33);
        String a = "c(c(c(x0,x3),c(x1,x3)),c(c(c(x0,x4),c(x2,x2)),c(c(x2,d),c(x4,x5))))";
        String b = "c(c(c(x3,x3),c(x3,x3)),c(c(c(x0,x3),c(x0,b)),c(c(x1,x2),c(b,b))))";
        Bench.due("1001 ways with one unifier", bench.unifiers(a, b), 33);
        Bench.due("which isn't given", bench.unifier(a, b, 0), "none");
        Bench.due("fuel is left", bench.unifiers("x0", "a"), 1);
    }

    private static void tooLongBinding() {
        Bench bench = new Bench("a0 f1 g2");
        String five = "g(a,g(a,a))";
        Bench.due("23 nodes by bindings put into others",
            bench.unifiers("g(x0,g(x1,x2))", "g(g(x1,x1),g(g(x2,x2)," + five + "))"), 1);
        Bench.due("its instance has more",
            bench.unifier("g(x0,g(x1,x2))", "g(g(x1,x1),g(g(x2,x2)," + five + "))", 0), "none");
        Bench.due("27 nodes by bindings put into others",
            bench.unifiers("g(x0,g(x1,x2))", "g(g(x1,x1),g(g(x2,x2),f(" + five + ")))"), 33);
        Bench.due("24 nodes by bindings put into others",
            bench.unifiers("g(x0,g(x1,x2))", "g(f(g(x1,x1)),g(g(x2,x2)," + five + "))"), 1);
        Bench.due("25 nodes by bindings put into others",
            bench.unifiers("g(x0,g(x1,x2))", "g(f(f(g(x1,x1))),g(g(x2,x2)," + five + "))"), 33);
        String eleven = "g(" + five + "," + five + ")";
        Bench.due("a binding of 23 nodes at once",
            bench.unifiers("g(x0,x1)", "g(" + eleven + ",g(x0,x0))"), 1);
        Bench.due("of 25 at once",
            bench.unifiers("g(x0,x1)", "g(f(" + eleven + "),g(x0,x0))"), 33);
        Bench.due("of 24", bench.unifiers("g(x0,x1)", "g(" + eleven + ",f(g(x0,x0)))"), 1);
        Bench.due("no binding if it occurs in it",
            bench.unifiers("g(x0,x1)", "g(f(" + eleven + "),g(x1,g(x0,x0)))"), 0);
    }

    private static void tooLongInstance() {
        Bench bench = new Bench("a0 f1 g2");
        String seven = "g(a,g(a,g(a,a)))";
        String a = "g(x0,g(x0,x0))";
        Bench.due("23 nodes", bench.unifier(a, "g(" + seven + ",x1)", 0),
            "g(" + seven + ",g(" + seven + "," + seven + "))");
        Bench.due("26 nodes", bench.unifier(a, "g(f(" + seven + "),x1)", 0), "none");
        Bench.due("there is one", bench.unifiers(a, "g(f(" + seven + "),x1)"), 1);
        Bench.due("the other way round too", bench.unifier("g(f(" + seven + "),x1)", a, 0), "none");
    }
}
