/** LIMIT: steps that are not done at all, after which no further one is done ever. */
public final class LimitTest {
    private LimitTest() { }

    public static void main(String[] args) {
        tooLongWhenReduced();
        tooLongCriticalPair();
        justTooLongCriticalPair();
        tooLongRightTerm();
        tooManyVariables();
        seventeenthRule();
        seventeenthRuleInAnothersStead();
        moreThanSixtyPairs();
        tooManyUnifiers();
        tooLongBinding();
        thousandRewritings();
        Bench.finish("LimitTest");
    }

    /** A limit was just met: nothing has changed, and nothing is done any more. */
    private static void dueLimited(Bench bench, String rules, String pairs) {
        Bench.due("rules", bench.rules(), rules);
        Bench.due("pairs", bench.pairs(), pairs);
        Bench.due("complete(0)", bench.desk.complete(0), 3);
        Bench.due("complete(-1)", bench.desk.complete(-1), 3);
        int waiting = bench.desk.waiting();
        bench.put(0, "a");
        Bench.due("equation(0, 0)", bench.desk.equation(0, 0), true);
        Bench.due("complete(30)", bench.desk.complete(30), 3);
        Bench.due("waiting()", bench.desk.waiting(), waiting + 1);
        Bench.due("rules", bench.rules(), rules);
    }

    private static void tooLongWhenReduced() {
        Bench bench = new Bench("a0 b0 g2 f1");
        bench.equation("f(x0)", "g(x0,x0)");
        Bench.due("complete(30)", bench.desk.complete(30), 1);
        bench.equation("f(f(f(a)))", "b");
        Bench.due("15 nodes", bench.desk.complete(1), 0);
        Bench.due("rules()", bench.desk.rules(), 2);
        Bench.due("complete(30)", bench.desk.complete(30), 1);
        String rules = bench.rules();
        bench.equation("b", "f(f(f(f(g(a,b)))))");
        Bench.due("63 nodes", bench.desk.complete(1), 3);
        dueLimited(bench, rules, "b = f(f(f(f(g(a,b)))))");
        Bench.due("reduce goes on", bench.reduced("f(f(b))"), "g(g(b,b),g(b,b))");
        Bench.due("prove goes on", bench.prove("f(b)", "g(b,b)"), 1);
    }

    private static void tooLongCriticalPair() {
        for (int length = 6; length <= 7; length++) {
            Bench bench = new Bench("a0 h1 g2 f1");
            bench.equation("f(g(x0,x1))", "g(x0,g(x0,x0))");
            Bench.due("complete(30)", bench.desk.complete(30), 1);
            String term = "h(".repeat(length) + "a" + ")".repeat(length);
            bench.equation("g(" + term + ",x0)", "a");
            if (length == 6) {
                Bench.due("23 nodes", bench.desk.complete(1), 0);
                Bench.due("the pair", bench.pair(0), "f(a) = g(" + term + ",g(" + term + "," + term + "))");
            } else {
                Bench.due("26 nodes", bench.desk.complete(1), 3);
                dueLimited(bench, "f(g(x0,x1)) -> g(x0,g(x0,x0))", "g(" + term + ",x0) = a");
            }
        }
    }

    /** The same of just 24 and 25 nodes, in the second term and in the first one. */
    private static void justTooLongCriticalPair() {
        for (int length = 6; length <= 7; length++) {
            Bench bench = new Bench("a0 h1 g2 f1");
            String more = length == 6 ? "g(x0,g(x0,x0))" : "h(g(x0,g(x0,x0)))";
            bench.equation("f(g(x0,x1))", "h(" + more + ")");
            Bench.due("complete(30)", bench.desk.complete(30), 1);
            bench.equation("g(" + "h(".repeat(6) + "a" + ")".repeat(6) + ",x0)", "a");
            Bench.due("24 or 25 nodes", bench.desk.complete(1), length == 6 ? 0 : 3);
        }
        for (int length = 22; length <= 23; length++) {
            Bench bench = new Bench("a0 h1 g2 f1");
            bench.equation("f(g(x0,x1))", "a");
            Bench.due("complete(30)", bench.desk.complete(30), 1);
            String right = "h(".repeat(length) + "x0" + ")".repeat(length);
            bench.equation("g(a,x0)", right);
            Bench.due("24 or 25 nodes", bench.desk.complete(1), length == 22 ? 0 : 3);
            Bench.due("the pair", bench.pair(0), length == 22 ? "f(" + right + ") = a" : "g(a,x0) = " + right);
        }
    }

    private static void tooLongRightTerm() {
        Bench bench = new Bench("a0 b0 g2 f1 j0");
        bench.equation("j", "f(f(f(f(a))))");
        Bench.due("complete(30)", bench.desk.complete(30), 1);
        bench.equation("f(x0)", "g(x0,x0)");
        Bench.due("31 nodes", bench.desk.complete(1), 3);
        dueLimited(bench, "j -> f(f(f(f(a))))", "f(x0) = g(x0,x0)");
        Bench other = new Bench("a0 b0 g2 f1 j0");
        other.equation("j", "f(f(f(a)))");
        Bench.due("complete(30)", other.desk.complete(30), 1);
        other.equation("f(x0)", "g(x0,x0)");
        Bench.due("15 nodes", other.desk.complete(30), 1);
        Bench.due("rules", other.rules(), "j -> g(g(g(a,a),g(a,a)),g(g(a,a),g(a,a))); f(x0) -> g(x0,x0)");
    }

    private static void tooManyVariables() {
        String rule = "f(g(x0,g(x1,g(x2,x3)))) -> g(x0,g(x1,g(x2,x3)))";
        Bench six = new Bench("a0 k2 g2 f1");
        six.equation("f(g(x0,g(x1,g(x2,x3))))", "g(x0,g(x1,g(x2,x3)))");
        Bench.due("complete(30)", six.desk.complete(30), 1);
        six.equation("g(k(x0,k(x1,x2)),x3)", "k(x0,k(x1,k(x2,x3)))");
        Bench.due("six variables", six.desk.complete(1), 0);
        Bench.due("rules()", six.desk.rules(), 2);
        Bench.due("the pair", six.pair(0),
            "f(k(x0,k(x1,k(x2,g(x3,g(x4,x5)))))) = g(k(x0,k(x1,x2)),g(x3,g(x4,x5)))");
        Bench seven = new Bench("a0 k2 g2 f1");
        seven.equation("f(g(x0,g(x1,g(x2,x3))))", "g(x0,g(x1,g(x2,x3)))");
        Bench.due("complete(30)", seven.desk.complete(30), 1);
        seven.equation("g(k(x0,k(x1,k(x2,x3))),x4)", "k(x0,k(x1,k(x2,k(x3,x4))))");
        Bench.due("seven variables", seven.desk.complete(1), 3);
        dueLimited(seven, rule, "g(k(x0,k(x1,k(x2,x3))),x4) = k(x0,k(x1,k(x2,k(x3,x4))))");
    }

    /** Sixteen rules g(y,z) -> a, of four letters. */
    private static Bench sixteenRules() {
        Bench bench = new Bench("a0 b0 d0 e0 i0 h1 g2");
        String letters = "bdei";
        for (int i = 0; i < 16; i++) {
            bench.equation("g(" + letters.charAt(i / 4) + "," + letters.charAt(i % 4) + ")", "a");
        }
        Bench.due("complete(30)", bench.desk.complete(30), 0);
        Bench.due("complete(30)", bench.desk.complete(30), 1);
        Bench.due("rules()", bench.desk.rules(), 16);
        return bench;
    }

    private static void seventeenthRule() {
        Bench bench = sixteenRules();
        String rules = bench.rules();
        bench.equation("h(x0)", "a");
        Bench.due("a seventeenth", bench.desk.complete(2), 3);
        dueLimited(bench, rules, "h(x0) = a");
    }

    private static void seventeenthRuleInAnothersStead() {
        Bench bench = sixteenRules();
        bench.equation("g(x0,d)", "a");
        Bench.due("four go", bench.desk.complete(1), 0);
        Bench.due("rules()", bench.desk.rules(), 13);
        Bench.due("the last", bench.rule(12), "g(x0,d) -> a");
        Bench.due("waiting()", bench.desk.waiting(), 5);
        Bench.due("first of them", bench.pair(0), "g(b,d) = a");
        Bench.due("last of them", bench.pair(3), "g(i,d) = a");
        Bench.due("its own", bench.pair(4), "a = a");
    }

    private static void moreThanSixtyPairs() {
        for (int heavy = 58; heavy <= 59; heavy++) {
            Bench bench = new Bench("a0 h1 c2!");
            bench.put(0, "h(h(a))").put(1, "h(h(x0))");
            for (int i = 0; i < heavy; i++) {
                Bench.due("equation", bench.desk.equation(0, 1), true);
            }
            bench.equation("c(x0,x1)", "a");
            Bench.due("waiting()", bench.desk.waiting(), heavy + 1);
            Bench.due("two critical pairs", bench.desk.complete(1), heavy == 58 ? 0 : 3);
            Bench.due("waiting()", bench.desk.waiting(), 60);
            Bench.due("rules()", bench.desk.rules(), heavy == 58 ? 1 : 0);
            Bench.due("the last", bench.pair(59), heavy == 58 ? "a = a" : "c(x0,x1) = a");
            Bench.due("complete(2)", bench.desk.complete(2), heavy == 58 ? 0 : 3);
            Bench.due("waiting()", bench.desk.waiting(), heavy == 58 ? 58 : 60);
        }
    }

    private static void tooManyUnifiers() {
        Bench few = new Bench("a0 c2!");
        few.equation("c(c(x0,c(x1,x2)),c(x3,c(x4,x5)))", "a");
        Bench.due("many", few.desk.complete(1), 0);
        Bench.due("waiting()", few.desk.waiting(), 30);
        Bench bench = new Bench("a0 c2!");
        bench.equation("c(c(c(x0,x1),c(x2,x3)),c(c(x4,x5),c(x0,x1)))", "a");
        String pair = bench.pairs();
        Bench.due("too many", bench.desk.complete(1), 3);
        dueLimited(bench, "", pair);
    }

    /** The first rule's x0 is bound to three and four times the term, on the way to a short pair. */
    private static void tooLongBinding() {
        for (int length = 4; length <= 5; length++) {
            Bench bench = new Bench("a0 b0 h1 k2 g2 f1");
            bench.equation("f(g(x0,g(k(x1,x1),x1)))", "a");
            Bench.due("complete(30)", bench.desk.complete(30), 1);
            String term = "h(".repeat(length) + "b" + ")".repeat(length);
            String left = "g(g(x0,x0),g(x0," + term + "))";
            bench.equation(left, "a");
            Bench.due("a binding of 23 or 27", bench.desk.complete(1), length == 4 ? 0 : 3);
            if (length == 4) {
                Bench.due("the pair", bench.pair(0), "f(a) = a");
            } else {
                dueLimited(bench, "f(g(x0,g(k(x1,x1),x1))) -> a", left + " = a");
            }
        }
    }

    private static String power(String letters, String last) {
        StringBuilder text = new StringBuilder(last);
        for (int i = letters.length() - 1; i >= 0; i--) {
            text.insert(0, "f(" + letters.charAt(i) + ",").append(')');
        }
        return text.toString();
    }

    /**
     * f(y,q(a)) becomes q(a) by 2, 6, 14, 44, 134, 404, 1214 rewritings for y = a, b, d, e, g, h, i:
     * p(a) stands inside for what becomes q(a), so that no right term can be reduced by itself.
     */
    private static Bench counter() {
        Bench bench = new Bench("a0 b0 d0 e0 g0 h0 i0 q1 p1 f2");
        bench.equation("p(a)", "q(a)");
        bench.equation("f(a,q(x0))", "p(x0)");
        bench.equation("f(b,q(x0))", power("aa", "p(x0)"));
        bench.equation("f(d,q(x0))", power("bb", "p(x0)"));
        bench.equation("f(e,q(x0))", power("ddd", "p(x0)"));
        bench.equation("f(g,q(x0))", power("eee", "p(x0)"));
        bench.equation("f(h,q(x0))", power("ggg", "p(x0)"));
        bench.equation("f(i,q(x0))", power("hhh", "p(x0)"));
        Bench.due("complete(30)", bench.desk.complete(30), 1);
        Bench.due("rules()", bench.desk.rules(), 8);
        return bench;
    }

    private static void thousandRewritings() {
        String thousand = power("hhged", "q(a)");
        String oneMore = power("hhged", "p(a)");
        Bench bench = counter();
        Bench.due("1000 rewritings", bench.reduced(thousand), "q(a)");
        bench = counter();
        Bench.due("1001 rewritings", bench.reduced(oneMore), "none");
        Bench.due("the place stays", bench.show(5), "x0");
        Bench.due("fuel is left", bench.reduced(power("h", "q(a)")), "q(a)");
        bench = counter();
        Bench.due("the first one can't be reduced", bench.prove(oneMore, "q(a)"), 2);
        bench = counter();
        bench.equation(thousand, "a");
        Bench.due("a step of 1000", bench.desk.complete(1), 0);
        Bench.due("its rule", bench.rule(8), "q(a) -> a");
        bench = counter();
        String rules = bench.rules();
        bench.equation("a", oneMore);
        Bench.due("a step of 1001", bench.desk.complete(1), 3);
        dueLimited(bench, rules, "a = " + oneMore);
    }
}
