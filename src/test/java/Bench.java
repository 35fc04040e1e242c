import java.util.function.Supplier;

/**
 * A desk whose terms are written as texts: x0 .. x5 are variables, other letters symbols in the
 * order in which they are told, "a0 f1 g2 c2!" (a letter, its arity, and ! if it is commutative).
 * Places 8 .. 15 are used to build terms.
 */
final class Bench {
    private static final int SPARE = 8;
    private static final int PLACES = 16;
    private static final int LAST = 15;
    private static final int FIRST_FUEL = 120000;
    private static int wrong;

    final EquationDesk desk = new EquationDesk();
    private final StringBuilder letters = new StringBuilder();
    private final int[] arities = new int[10];
    private final String[] laid = new String[PLACES];
    private String held = "";
    private String text = "";
    private int at;

    Bench(String symbols) {
        for (String s : symbols.split(" ")) {
            if (!s.isEmpty()) {
                arities[letters.length()] = s.charAt(1) - '0';
                due("symbol " + s, desk.symbol(s.charAt(1) - '0', s.endsWith("!")), letters.length());
                letters.append(s.charAt(0));
            }
        }
    }

    static void due(String call, long got, long want) {
        if (got != want) {
            wrong++;
            System.out.println(call + " answered " + got + ", due is " + want);
        }
    }

    static void due(String call, boolean got, boolean want) {
        due(call, got ? 1 : 0, want ? 1 : 0);
    }

    static void due(String call, String got, String want) {
        if (!got.equals(want)) {
            wrong++;
            System.out.println(call + " answered " + got + ", due is " + want);
        }
    }

    /** Ends the machine with exit code 1 if any answer wasn't the one that was due. */
    static void finish(String name) {
        System.out.println(name + ": " + (wrong == 0 ? "all answers are as due" : wrong + " wrong answers"));
        if (wrong > 0) {
            System.exit(1);
        }
    }

    Bench put(int place, String term) {
        text = term;
        at = 0;
        build(place, SPARE);
        if (at != text.length()) {
            throw new IllegalArgumentException(term);
        }
        return this;
    }

    private void build(int place, int spare) {
        char c = text.charAt(at);
        at++;
        if (c == 'x') {
            due("variable of " + text, desk.variable(place, text.charAt(at) - '0'), true);
            at++;
            return;
        }
        int symbol = letters.indexOf(String.valueOf(c));
        for (int i = 0; i < arities[symbol]; i++) {
            at++;
            build(spare + i, spare + i);
        }
        at += arities[symbol] > 0 ? 1 : 0;
        due("term of " + text, desk.term(place, symbol, spare, spare + 1), true);
    }

    String show(int place) {
        StringBuilder shown = new StringBuilder();
        int end = show(place, 0, shown);
        return end == desk.size(place) ? shown.toString() : shown + " and more";
    }

    private int show(int place, int node, StringBuilder shown) {
        int code = desk.node(place, node);
        if (code == EquationDesk.NONE) {
            shown.append('?');
            return node;
        }
        if (code >= 100) {
            shown.append('x').append(code - 100);
            return node + 1;
        }
        shown.append(letters.charAt(code));
        int next = node + 1;
        for (int i = 0; i < arities[code]; i++) {
            shown.append(i == 0 ? '(' : ',');
            next = show(place, next, shown);
        }
        shown.append(arities[code] > 0 ? ")" : "");
        return next;
    }

    void equation(String a, String b) {
        put(6, a).put(7, b);
        due("equation " + a + " = " + b, desk.equation(6, 7), true);
    }

    boolean greater(String a, String b) {
        put(6, a).put(7, b);
        return desk.greater(6, 7);
    }

    int matches(String pattern, String term) {
        put(6, pattern).put(7, term);
        return desk.matches(6, 7);
    }

    /** A match as text, "x0=a x1=f(x2)", or "none". */
    String match(String pattern, String term, int i) {
        put(6, pattern).put(7, term);
        StringBuilder shown = new StringBuilder();
        for (int v = 0; v < 6; v++) {
            if (desk.match(6, 7, i, v, 5)) {
                shown.append(shown.length() > 0 ? " " : "").append('x').append(v).append('=').append(show(5));
            }
        }
        return shown.length() > 0 ? shown.toString() : "none";
    }

    int unifiers(String a, String b) {
        put(6, a).put(7, b);
        return desk.unifiers(6, 7);
    }

    String unifier(String a, String b, int i) {
        put(6, a).put(7, b);
        return desk.unifier(6, 7, i, 5) ? show(5) : "none";
    }

    String reduced(String term) {
        put(6, term);
        return desk.reduce(6, 5) ? show(5) : "none";
    }

    int prove(String a, String b) {
        put(6, a).put(7, b);
        return desk.prove(6, 7);
    }

    String rule(int i) {
        return desk.rule(i, false, 6) && desk.rule(i, true, 7) ? show(6) + " -> " + show(7) : "none";
    }

    String rules() {
        StringBuilder shown = new StringBuilder();
        for (int i = 0; i < desk.rules(); i++) {
            shown.append(i > 0 ? "; " : "").append(rule(i));
        }
        return shown.toString();
    }

    String pair(int i) {
        return desk.pair(i, false, 6) && desk.pair(i, true, 7) ? show(6) + " = " + show(7) : "none";
    }

    String pairs() {
        StringBuilder shown = new StringBuilder();
        for (int i = 0; i < desk.waiting(); i++) {
            shown.append(i > 0 ? "; " : "").append(pair(i));
        }
        return shown.toString();
    }

    /** Remembers what lies in all places, the rules and the pairs; place 15 may be used for it. */
    Bench mark() {
        held = held();
        for (int i = 0; i < PLACES; i++) {
            laid[i] = show(i);
        }
        return this;
    }

    /** Nothing of that is otherwise now. */
    void dueAsMarked(String after) {
        for (int i = 0; i < PLACES; i++) {
            due("after " + after + " place " + i, show(i), laid[i]);
        }
        due("after " + after + " the rules and pairs", held(), held);
        laid[LAST] = show(LAST);
    }

    private String held() {
        StringBuilder shown = new StringBuilder();
        for (int i = 0; i < desk.rules(); i++) {
            shown.append(desk.rule(i, false, LAST) ? show(LAST) : "none").append(" -> ");
            shown.append(desk.rule(i, true, LAST) ? show(LAST) : "none").append("; ");
        }
        for (int i = 0; i < desk.waiting(); i++) {
            shown.append(desk.pair(i, false, LAST) ? show(LAST) : "none").append(" = ");
            shown.append(desk.pair(i, true, LAST) ? show(LAST) : "none").append("; ");
        }
        return shown.toString();
    }

    /** A term of so many nodes, one below the other: of f1, and a variable. */
    static String chain(int nodes, String variable) {
        return "f(".repeat(nodes - 1) + variable + ")".repeat(nodes - 1);
    }

    /**
     * Takes so much FUEL, but for 1, by matches of f1 and x0 in places 13 to 15; false if a call
     * is refused. A chain of 24 nodes costs 600 with itself, a variable and n nodes 1 + n.
     */
    boolean spend(int fuel) {
        int rest = fuel;
        boolean done = true;
        put(13, "x0").put(14, chain(24, "x0"));
        while (done && rest > 626) {
            done = desk.matches(14, 14) == 1;
            rest -= 600;
        }
        while (done && rest > 27) {
            done = desk.matches(13, 14) == 1;
            rest -= 25;
        }
        if (done && rest > 25) {
            put(15, chain(12, "x0"));
            done = desk.matches(13, 15) == 1;
            rest -= 13;
        }
        if (done && rest > 1) {
            put(15, chain(rest - 1, "x0"));
            done = desk.matches(13, 15) == 1;
        }
        return done;
    }

    /** How much FUEL desks that are made so have left (0 may be 1): tried on one after the other. */
    static int fuel(Supplier<Bench> made) {
        int least = 0;
        int most = FIRST_FUEL;
        while (least < most) {
            int middle = (least + most + 1) / 2;
            if (middle > 1 && made.get().spend(middle)) {
                least = middle;
            } else {
                most = middle - 1;
            }
        }
        return least;
    }
}
