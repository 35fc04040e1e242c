import java.util.Random;

/**
 * Seeded random runs on an EquationDesk and on a NaiveDesk side by side: every answer, and after
 * the runs every place, rule and pair, must be the same. An argument gives the number of runs.
 */
public final class RandomRunsTest {
    private static final int SHOWN = 20;
    /** What later calls on a desk answer is free. */
    private static final int MOST_CALLS = 512;

    private final Random random;
    private final long seed;
    private final EquationDesk desk = new EquationDesk();
    private final NaiveDesk naive = new NaiveDesk();
    private final int[] arities = new int[10];
    private int symbols;
    /** A commutative one, if there is any. */
    private int swapping = NaiveDesk.NONE;
    private int wrong;
    private int calls;

    private RandomRunsTest(long seed) {
        this.seed = seed;
        this.random = new Random(seed);
    }

    public static void main(String[] args) {
        int runs = args.length > 0 ? Integer.parseInt(args[0]) : 3000;
        int wrong = 0;
        for (int i = 0; i < runs && wrong < SHOWN; i++) {
            RandomRunsTest run = new RandomRunsTest(i);
            run.run();
            wrong += run.wrong;
        }
        System.out.println("met " + NaiveDesk.MET);
        System.out.println(runs + " random runs, " + wrong + " wrong");
        if (wrong > 0) {
            System.exit(1);
        }
    }

    private void due(String call, long got, long want) {
        calls++;
        if (got != want) {
            wrong++;
            if (wrong < SHOWN) {
                System.out.println("seed " + seed + " call " + calls + ": " + call + " answered " + got
                    + ", due is " + want);
            }
        }
    }

    private void due(String call, boolean got, boolean want) {
        due(call, got ? 1 : 0, want ? 1 : 0);
    }

    private void run() {
        int style = random.nextInt(6);
        if (style == 4) {
            defineSymbol(2, true);
            defineSymbol(2, random.nextBoolean());
        }
        makeSymbols();
        for (int i = style == 4 ? 8 : 0; i < 16; i++) {
            makeTerm(i, 1 + random.nextInt(style == 4 ? 22 : random.nextBoolean() ? 4 : 9));
        }
        for (int i = style == 4 ? 7 : -1; i >= 0; i--) {
            makeTree(i, 2 + random.nextInt(11));
        }
        if (style == 5) {
            askLaws();
        }
        int end = Math.min(MOST_CALLS - 100, calls + 60 + random.nextInt(350));
        int burning = calls + random.nextInt(3 * Math.max(1, end - calls));
        while (calls < end && wrong == 0) {
            if (calls >= burning) {
                burn();
                burning = MOST_CALLS;
            }
            call(style);
        }
        compareAll();
    }

    private void makeSymbols() {
        int many = 2 + random.nextInt(4);
        for (int i = 0; i < many; i++) {
            int arity = i == 0 ? 0 : random.nextInt(3);
            defineSymbol(arity, arity == 2 && random.nextInt(3) > 0);
        }
        defineSymbol(2, random.nextBoolean());
        if (random.nextInt(3) == 0) {
            defineSymbol(1, false);
        }
    }

    private void defineSymbol(int arity, boolean commutative) {
        int got = desk.symbol(arity, commutative);
        due("symbol(" + arity + ", " + commutative + ")", got, naive.symbol(arity, commutative));
        if (got >= 0 && got < 10) {
            arities[got] = arity;
            symbols = got + 1;
            swapping = commutative ? got : swapping;
        }
    }

    /** Equations of well-known kinds, whose completion makes many rules go and come. */
    private void askLaws() {
        String[] laws = {"m(e,x)=x", "m(i(x),x)=e", "m(m(x,y),z)=m(x,m(y,z))", "i(i(x))=x", "m(x,x)=x", "m(x,x)=e",
            "m(x,m(x,y))=y", "p(x,e)=x", "m(x,p(y,z))=p(m(x,y),m(x,z))", "m(p(x,y),z)=p(m(x,z),m(y,z))", "p(x,m(x,y))=x",
            "m(x,p(x,y))=x", "i(m(x,y))=p(i(x),i(y))", "i(p(x,y))=m(i(x),i(y))", "p(x,i(y))=i(p(x,y))", "i(e)=e",
            "m(x,e)=e", "m(x,i(y))=p(m(x,y),x)", "m(i(x),y)=i(m(x,y))", "p(p(x,y),z)=e", "p(m(x,y),m(z,w))=x"};
        int[] numbers = {NaiveDesk.NONE, NaiveDesk.NONE, NaiveDesk.NONE, NaiveDesk.NONE};
        String names = "eimp";
        while (symbols < 9) {
            int which = random.nextInt(4);
            if (numbers[which] == NaiveDesk.NONE) {
                numbers[which] = symbols;
            }
            int arity = which == 0 ? 0 : which == 1 ? 1 : 2;
            defineSymbol(arity, arity == 2 && random.nextBoolean());
            if (numbers[0] + numbers[1] + numbers[2] + numbers[3] > 0 && all(numbers)) {
                break;
            }
        }
        int many = 2 + random.nextInt(4);
        for (int i = 0; i < many && all(numbers); i++) {
            String law = laws[random.nextInt(laws.length)];
            int equals = law.indexOf('=');
            build(law, 0, 0, names, numbers);
            build(law, equals + 1, 8, names, numbers);
            due("equation " + law, desk.equation(0, 8), naive.equation(0, 8));
            complete(random.nextInt(4));
        }
    }

    private static boolean all(int[] numbers) {
        for (int n : numbers) {
            if (n == NaiveDesk.NONE) {
                return false;
            }
        }
        return true;
    }

    private int build(String text, int at, int place, String names, int[] numbers) {
        int which = names.indexOf(text.charAt(at));
        if (which < 0) {
            putVariable(place, "xyzw".indexOf(text.charAt(at)));
            return at + 1;
        }
        int symbol = numbers[which];
        int next = at + 1;
        for (int i = 0; i < arities[symbol]; i++) {
            next = build(text, next + 1, place + i, names, numbers);
        }
        putTerm(place, symbol, place, place + 1);
        return arities[symbol] > 0 ? next + 1 : next;
    }

    /** Builds a term of about so many symbols, of terms in places behind the place. */
    private void makeTerm(int place, int weight) {
        int symbol = random.nextInt(symbols);
        if (weight <= 1 || place >= 15) {
            if (random.nextInt(4) == 0 && arities[symbol] == 0) {
                putTerm(place, symbol, 0, 0);
            } else {
                putVariable(place, random.nextInt(random.nextInt(3) == 0 ? 6 : 3));
            }
            return;
        }
        for (int i = 0; i < 5 && arities[symbol] == 0; i++) {
            symbol = random.nextInt(symbols);
        }
        int first = arities[symbol] == 2 ? random.nextInt(weight) : weight - 1;
        makeTerm(place, first);
        if (arities[symbol] == 2) {
            makeTerm(place + 1, weight - 1 - first);
        }
        putTerm(place, symbol, place, place + 1);
    }

    /** Builds an even tree of one symbol, which has the most ways if that is commutative. */
    private void makeTree(int place, int leaves) {
        if (leaves <= 1) {
            makeTerm(place, random.nextInt(3));
            return;
        }
        makeTree(place, leaves / 2);
        makeTree(place + 1, leaves - leaves / 2);
        putTerm(place, 0, place, place + 1);
    }

    private void putVariable(int place, int variable) {
        due("variable(" + place + ", " + variable + ")", desk.variable(place, variable),
            naive.variable(place, variable));
    }

    private void putTerm(int place, int symbol, int first, int second) {
        due("term(" + place + ", " + symbol + ", " + first + ", " + second + ")",
            desk.term(place, symbol, first, second), naive.term(place, symbol, first, second));
    }

    private int place() {
        return random.nextInt(40) == 0 ? random.nextInt(40) - 20 : random.nextInt(16);
    }

    private void call(int style) {
        int a = place();
        int b = place();
        int to = place();
        int i = random.nextInt(5) - (random.nextInt(8) == 0 ? 1 : 0);
        switch (random.nextInt(style == 0 || style == 4 ? 26 : 20)) {
            case 0 -> defineSymbol(random.nextInt(5) - 1, random.nextBoolean());
            case 1 -> putVariable(a, random.nextInt(8) - 1);
            case 2, 3 -> putTerm(to, random.nextInt(symbols + 1) - random.nextInt(2), a, b);
            case 4 -> makeTree(random.nextInt(8), 2 + random.nextInt(style == 4 ? 11 : 4));
            case 5 -> makeTerm(random.nextInt(16), 1 + random.nextInt(style == 1 || style == 4 ? 22 : 8));
            case 6 -> due("size(" + a + ")", desk.size(a), naive.size(a));
            case 7 -> due("node(" + a + ", " + i + ")", desk.node(a, i), naive.node(a, i));
            case 8 -> due("same(" + a + ", " + b + ")", desk.same(a, b), naive.same(a, b));
            case 9 -> due("greater(" + a + ", " + b + ")", desk.greater(a, b), naive.greater(a, b));
            case 10 -> due("matches(" + a + ", " + b + ")", desk.matches(a, b), naive.matches(a, b));
            case 11 -> match(a, b, i, to);
            case 12 -> due("unifiers(" + a + ", " + b + ")", desk.unifiers(a, b), naive.unifiers(a, b));
            case 13 -> due("unifier(" + a + ", " + b + ", " + i + ", " + to + ")",
                desk.unifier(a, b, i, to), naive.unifier(a, b, i, to));
            case 14 -> equation(a, b, style);
            case 15 -> complete(style);
            case 16 -> due("rule(" + i + ", .., " + to + ")", desk.rule(i, i < 2, to), naive.rule(i, i < 2, to));
            case 17 -> due("pair(" + i + ", .., " + to + ")", desk.pair(i, i < 2, to), naive.pair(i, i < 2, to));
            case 18 -> due("reduce(" + a + ", " + to + ")", desk.reduce(a, to), naive.reduce(a, to));
            case 19 -> due("prove(" + a + ", " + b + ")", desk.prove(a, b), naive.prove(a, b));
            default -> due("matches(" + a + ", " + a + ")", desk.matches(a, a), naive.matches(a, a));
        }
    }

    /** Leaves little of the fuel, so that it runs out in whatever comes next. */
    private void burn() {
        int left = random.nextInt(random.nextBoolean() ? 300 : 3000);
        if (swapping == NaiveDesk.NONE) {
            defineSymbol(2, true);
        }
        if (swapping == NaiveDesk.NONE) {
            return;
        }
        // Trees of 2, 4 and 8 equal leaves, which cost as much as stands below with themselves.
        putVariable(15, 0);
        for (int tree = 0; tree < 3; tree++) {
            putTerm(tree, swapping, tree == 0 ? 15 : tree - 1, tree == 0 ? 15 : tree - 1);
        }
        int[] costs = {14, 98, 1794};
        for (int tree = 2; tree >= 0; tree--) {
            while (naive.fuel > left + costs[tree] && !naive.out && calls < MOST_CALLS - 100 && wrong == 0) {
                due("matches(" + tree + ", .. )", desk.matches(tree, tree), naive.matches(tree, tree));
            }
        }
    }

    private void match(int a, int b, int i, int to) {
        int variable = random.nextInt(7);
        due("match(" + a + ", " + b + ", " + i + ", " + variable + ", " + to + ")",
            desk.match(a, b, i, variable, to), naive.match(a, b, i, variable, to));
    }

    /** Mostly such as the order can tell, since one that it can't stops all steps for good. */
    private void equation(int a, int b, int style) {
        boolean ordered = naive.greater(a, b) || naive.greater(b, a);
        if (style == 0 || ordered || random.nextInt(60) == 0) {
            due("equation(" + a + ", " + b + ")", desk.equation(a, b), naive.equation(a, b));
        }
    }

    private void complete(int style) {
        if (style < 2 && random.nextInt(3) > 0) {
            return;
        }
        int n = random.nextInt(style == 2 ? 4 : 33) - 1;
        due("complete(" + n + ")", desk.complete(n), naive.complete(n));
        due("rules()", desk.rules(), naive.rules());
        due("waiting()", desk.waiting(), naive.waiting());
    }

    private boolean goesOn() {
        return wrong == 0 && calls < MOST_CALLS - 2;
    }

    private void compareAll() {
        due("rules()", desk.rules(), naive.rules());
        due("waiting()", desk.waiting(), naive.waiting());
        for (int p = 0; p < 16 && goesOn(); p++) {
            comparePlace("place " + p, p);
        }
        for (int i = 0; i < naive.rules() && goesOn(); i++) {
            due("rule", desk.rule(i, false, 0), naive.rule(i, false, 0));
            due("rule", desk.rule(i, true, 1), naive.rule(i, true, 1));
            comparePlace("left " + i, 0);
            comparePlace("right " + i, 1);
        }
        int first = random.nextInt(1 + naive.waiting());
        for (int i = first; i < naive.waiting() && goesOn(); i++) {
            due("pair", desk.pair(i, false, 0), naive.pair(i, false, 0));
            due("pair", desk.pair(i, true, 1), naive.pair(i, true, 1));
            comparePlace("first " + i, 0);
            comparePlace("second " + i, 1);
        }
    }

    private void comparePlace(String what, int place) {
        for (int i = 0; i < naive.size(place) && goesOn(); i++) {
            due(what + " node " + i, desk.node(place, i), naive.node(place, i));
        }
        if (goesOn()) {
            due(what, desk.size(place), naive.size(place));
        }
    }
}
