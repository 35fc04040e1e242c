import java.util.function.Supplier;

/**
 * What a STEP does, sentence by sentence, where only the order of its doings or the terms that it
 * goes by tell: which rules and right terms are used, and how pairs and rules are RENAMED.
 */
public final class StepTest {
    private static final String TEN = "p(h(h(h(h(h(h(h(h(a)))))))))";

    private StepTest() { }

    public static void main(String[] args) {
        renamedThenSorted();
        rulesGoAsTheyStand();
        rightTermsGoAsTheyStand();
        rulesThatGoReduceNothing();
        rightTermsAsTheyWereBefore();
        rightTermsAsTheyWereByFuel();
        newOneIsTheLastToReduceBy();
        criticalPairsByNewRightTerms();
        newRightTermIsReducedByOldRules();
        reducedToTheLeft();
        eachOtherRuleByNumber();
        variablesHigher();
        ownOverlapOnce();
        stuckPairKeepsItsPlace();
        lastPairsOfAStep();
        pairThatIsTakenGoes();
        limitLeavesTheOrder();
        Bench.finish("StepTest");
    }

    private static Bench completed(String symbols, String... sides) {
        Bench bench = new Bench(symbols);
        for (int i = 0; i < sides.length; i += 2) {
            bench.equation(sides[i], sides[i + 1]);
            Bench.due("complete(30)", bench.desk.complete(30), 1);
        }
        return bench;
    }

    private static void dueStep(Bench bench, int answer, String rules, String pairs) {
        Bench.due("complete(1)", bench.desk.complete(1), answer);
        Bench.due("rules", bench.rules(), rules);
        Bench.due("pairs", bench.pairs(), pairs);
    }

    /** "those that are met first .. become 0, 1, and so on", then "it is sorted again": once. */
    private static void renamedThenSorted() {
        Bench bench = new Bench("a0 g2 c2! p2 q2");
        bench.equation("g(x1,c(g(x0,x3),g(x1,x2)))", "a");
        Bench.due("of an equation", bench.pair(0), "g(x0,c(g(x0,x3),g(x1,x2))) = a");
        Bench.due("complete(1)", bench.desk.complete(1), 0);
        Bench.due("once more, of its rule", bench.rule(0), "g(x0,c(g(x0,x1),g(x2,x3))) -> a");
        bench = new Bench("a0 g2 c2! p2 q2");
        bench.equation("g(x4,x2)", "c(x1,x2)");
        Bench.due("the first term's first", bench.pair(0), "g(x0,x1) = c(x1,x2)");
        bench.equation("c(x1,x2)", "g(x4,x2)");
        Bench.due("then the second one's", bench.pair(1), "c(x0,x1) = g(x2,x1)");
    }

    /**
     * "goes, and becomes a pair that waits (left, right)": p(q(x0,x1),q(x2,x3)) becomes the left
     * term of a rule that would be another one if it were RENAMED once more.
     */
    private static void rulesGoAsTheyStand() {
        Bench bench = completed("a0 g2 c2! p2 q2", "p(q(x0,x1),q(x2,x3))", "g(x2,c(g(x0,x1),g(x2,x3)))");
        bench.equation("p(q(x0,x1),q(x2,x3))", "a");
        Bench.due("a rule, and two pairs of a go", bench.desk.complete(3), 0);
        Bench.due("rules", bench.rules(), "p(q(x0,x1),q(x2,x3)) -> a; g(x0,c(g(x0,x3),g(x1,x2))) -> a");
        bench.equation("c(x4,x2)", "a");
        dueStep(bench, 0, "p(q(x0,x1),q(x2,x3)) -> a; c(x0,x1) -> a",
            "g(x0,c(a,g(x1,x2))) = a; g(x0,c(a,g(x0,x1))) = a; g(x0,c(g(x0,x3),g(x1,x2))) = a; a = a; a = a");
    }

    /** The same of its right term: it isn't reduced by the new rule. */
    private static void rightTermsGoAsTheyStand() {
        Bench bench = completed("a0 f1 k1 h1", "h(k(x0))", "f(f(x0))");
        Bench.due("rules", bench.rules(), "h(k(x0)) -> f(f(x0))");
        bench.equation("h(x0)", "a");
        dueStep(bench, 0, "h(x0) -> a", "h(k(x0)) = f(f(x0)); a = a");
        bench = completed("a0 f1 k1 h1", "h(f(x0))", "f(f(x0))");
        bench.equation("f(x0)", "a");
        dueStep(bench, 0, "f(x0) -> a", "h(f(x0)) = f(f(x0)); a = a");
    }

    /** "the right term is reduced by all rules that stay, and the new one": not by k(a) -> e. */
    private static void rulesThatGoReduceNothing() {
        Bench bench = completed("a0 b0 e0 k1 j0", "k(a)", "e", "j", "k(k(b))");
        Bench.due("rules", bench.rules(), "k(a) -> e; j -> k(k(b))");
        bench.equation("k(x0)", "a");
        dueStep(bench, 0, "j -> a; k(x0) -> a", "k(a) = e; a = a");
    }

    /** k(a) -> g(p(..),p(..)) of 21 nodes, and j -> so many h of k(p(a)). */
    private static Bench oldRights(int many) {
        return completed("a0 h1 g2 p1 k1 j0", "k(a)", "g(" + TEN + "," + TEN + ")",
            "j", "h(".repeat(many) + "k(p(a))" + ")".repeat(many));
    }

    /**
     * "(all with right terms as they were before this)": by p(x0) -> a k(p(a)) becomes k(a), then 21
     * nodes, though k(a) -> g(a,a) at the end: 24 or 25 with the h around it.
     */
    private static void rightTermsAsTheyWereBefore() {
        Bench bench = oldRights(3);
        bench.equation("p(x0)", "a");
        Bench.due("24 nodes", bench.desk.complete(1), 0);
        Bench.due("rules", bench.rules(), "k(a) -> g(a,a); j -> h(h(h(g(a,a)))); p(x0) -> a");
        bench = oldRights(4);
        bench.equation("p(x0)", "a");
        Bench.due("25 nodes", bench.desk.complete(1), 3);
        Bench.due("rules()", bench.desk.rules(), 2);
    }

    /** The same by its FUEL. */
    private static void rightTermsAsTheyWereByFuel() {
        Supplier<Bench> made = () -> completed("a0 f1 p0 k1 j0", "k(a)", "f(p)", "j", "k(p)");
        int before = Bench.fuel(made);
        int after = Bench.fuel(() -> {
            Bench bench = made.get();
            bench.equation("p", "a");
            dueStep(bench, 0, "k(a) -> f(a); j -> f(a); p -> a", "a = a");
            return bench;
        });
        // f(p): p 2. k(p): p 2, then k(a) with k(a) 4 and 2, f(p), then p 2. The new rule with itself 2.
        Bench.due("FUEL", before - after, 2 + (2 + 4 + 2 + 2) + 2);
    }

    /** "by all rules that stay, and the new one": g(f(e),b) is e by the old one, f(e) by the new one. */
    private static void newOneIsTheLastToReduceBy() {
        Bench bench = completed("b0 e0 f1 g2 j0", "g(f(e),x0)", "e", "j", "g(f(g(e,b)),b)");
        Bench.due("rules", bench.rules(), "g(f(e),x0) -> e; j -> g(f(g(e,b)),b)");
        bench.equation("g(x0,b)", "x0");
        Bench.due("complete(1)", bench.desk.complete(1), 0);
        Bench.due("rules", bench.rules(), "g(f(e),x0) -> e; j -> e; g(x0,b) -> x0");
        Bench.due("so it is later", bench.reduced("g(f(e),b)"), "e");
    }

    /** "Then .. The new rule becomes the last one. CRITICAL PAIRS come": by right terms that are reduced. */
    private static void criticalPairsByNewRightTerms() {
        Bench bench = completed("a0 m1 f1 h1", "h(f(x0))", "f(m(x0))");
        Bench.due("rules", bench.rules(), "h(f(x0)) -> f(m(x0))");
        bench.equation("f(m(x0))", "x0");
        dueStep(bench, 0, "h(f(x0)) -> x0; f(m(x0)) -> x0", "h(x0) = m(x0); x0 = x0");
        bench = completed("a0 m1 h1 f1", "f(m(x0))", "h(f(x0))");
        Bench.due("rules", bench.rules(), "f(m(x0)) -> h(f(x0))");
        bench.equation("h(f(x0))", "x0");
        dueStep(bench, 0, "f(m(x0)) -> x0; h(f(x0)) -> x0", "h(x0) = m(x0); x0 = x0");
    }

    /** "Both are reduced", then they are a rule. */
    private static void newRightTermIsReducedByOldRules() {
        Bench bench = completed("a0 b0 f1 k1", "f(b)", "a");
        bench.equation("f(f(b))", "k(f(f(b)))");
        Bench.due("complete(1)", bench.desk.complete(1), 0);
        Bench.due("rules", bench.rules(), "f(b) -> a; k(f(a)) -> f(a)");
    }

    /** "one must be greater than the other: it is the left term", whichever it is. */
    private static void reducedToTheLeft() {
        Bench bench = new Bench("a0 b0 f1 k1");
        bench.equation("a", "k(x3)");
        bench.equation("f(x2)", "b");
        Bench.due("complete(30)", bench.desk.complete(30), 1);
        Bench.due("rules", bench.rules(), "k(x0) -> a; f(x0) -> b");
        // It is the reduced terms that are looked at: f(a) is b by now, and so less than k's.
        bench.equation("f(a)", "a");
        Bench.due("complete(1)", bench.desk.complete(1), 0);
        Bench.due("rules", bench.rules(), "k(x0) -> a; f(x0) -> a; b -> a");
    }

    /** "Each other rule, by number": those that go wait by their numbers, behind those that waited. */
    private static void eachOtherRuleByNumber() {
        Bench bench = completed("a0 b0 d0 e0 f1 k1 h1", "k(f(b))", "a", "h(b)", "a", "k(h(f(d)))", "a", "f(e)", "a");
        Bench.due("rules", bench.rules(), "k(f(b)) -> a; h(b) -> a; k(h(f(d))) -> a; f(e) -> a");
        bench.equation("k(k(k(x0)))", "k(k(k(x0)))");
        bench.equation("f(x0)", "b");
        dueStep(bench, 0, "h(b) -> a; f(x0) -> b",
            "k(k(k(x0))) = k(k(k(x0))); k(f(b)) = a; k(h(f(d))) = a; f(e) = a; b = b");
    }

    /** "(p's variables being 6 higher)": those of q have their numbers, which are the lesser ones. */
    private static void variablesHigher() {
        Bench bench = new Bench("a0 k2 g2");
        bench.equation("g(g(x0,x1),x2)", "k(x0,k(x1,x2))");
        dueStep(bench, 0, "g(g(x0,x1),x2) -> k(x0,k(x1,x2))",
            "k(x0,k(x1,x2)) = k(x0,k(x1,x2)); g(k(x0,k(x1,x2)),x3) = k(g(x0,x1),k(x2,x3))");
        // The x0 of both rules is not the same one, or it would occur in k(x0).
        bench = completed("a0 b0 k1 f1 h1", "h(f(x0))", "x0");
        bench.equation("f(k(x0))", "b");
        dueStep(bench, 0, "h(f(x0)) -> x0; f(k(x0)) -> b", "h(b) = k(x0); b = b");
    }

    /** "of the new one in r, then, if it is another one, of r in the new one" */
    private static void ownOverlapOnce() {
        Bench bench = new Bench("a0 f1");
        bench.equation("f(f(x0))", "a");
        dueStep(bench, 0, "f(f(x0)) -> a", "a = a; f(a) = a");
        // At the root both ways round: the new one in r, then r in the new one.
        bench = completed("a0 b0 d0 g2", "g(b,x0)", "x0");
        bench.equation("g(x0,d)", "a");
        dueStep(bench, 0, "g(b,x0) -> x0; g(x0,d) -> a", "a = d; d = a; a = a");
    }

    /** "the step can't be done, the pair waits on as it was": among the others. */
    private static void stuckPairKeepsItsPlace() {
        Bench bench = new Bench("a0 b0 f1 g2");
        bench.equation("f(f(f(f(a))))", "f(f(f(b)))");
        bench.equation("g(x0,x1)", "g(x1,x0)");
        bench.equation("f(f(f(f(b))))", "f(f(f(a)))");
        bench.mark();
        Bench.due("the second can't be done", bench.desk.complete(30), 2);
        bench.dueAsMarked("a step that can't be done");
    }

    /** Others, then rules that went, then critical pairs, "in the order in which they came". */
    private static void lastPairsOfAStep() {
        Bench bench = completed("a0 b0 d0 f1 k1", "k(f(b))", "b", "k(d)", "a");
        bench.equation("k(k(k(a)))", "d");
        bench.equation("f(x0)", "d");
        Bench.due("complete(1)", bench.desk.complete(1), 0);
        Bench.due("rules", bench.rules(), "k(d) -> a; f(x0) -> d");
        Bench.due("pairs", bench.pairs(), "k(k(k(a))) = d; k(f(b)) = b; d = d");
        bench.equation("a", "a");
        Bench.due("an equation is the last", bench.pair(3), "a = a");
    }

    /** The pair that becomes a rule doesn't wait any more; one that stands twice waits still. */
    private static void pairThatIsTakenGoes() {
        Bench bench = new Bench("a0 b0 f1");
        bench.equation("f(a)", "b");
        bench.equation("f(a)", "b");
        dueStep(bench, 0, "f(a) -> b", "f(a) = b; b = b");
        dueStep(bench, 0, "f(a) -> b", "f(a) = b");
        dueStep(bench, 1, "f(a) -> b", "");
    }

    /** "is not done at all (the pair waits on)": at its place, with rules that would have gone. */
    private static void limitLeavesTheOrder() {
        Bench bench = completed("a0 h1 g2 p1 k1 j0", "k(a)", "g(" + TEN + "," + TEN + ")", "j", "h(h(h(h(k(p(a))))))",
            "k(p(p(x0)))", "a");
        bench.equation("k(k(k(x0)))", "a");
        bench.equation("p(x0)", "a");
        bench.equation("k(k(x0))", "k(k(x0))");
        bench.mark();
        Bench.due("25 nodes", bench.desk.complete(30), 3);
        bench.dueAsMarked("a LIMIT");
    }
}
