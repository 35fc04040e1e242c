import java.lang.reflect.Constructor;
import java.lang.reflect.Field;
import java.lang.reflect.Method;
import java.lang.reflect.Modifier;
import java.util.ArrayList;
import java.util.Arrays;
import java.util.List;
import java.util.Random;
import java.util.TreeSet;

/**
 * "The public face": these members and no others, the constants; that desks have nothing in
 * common; that no call ever throws, whatever its arguments are; and what README.md tells.
 */
public final class FaceTest {
    private static final String[] FACE = {
        "boolean equation(int, int)", "boolean greater(int, int)", "boolean match(int, int, int, int, int)",
        "boolean pair(int, boolean, int)", "boolean reduce(int, int)", "boolean rule(int, boolean, int)",
        "boolean same(int, int)", "boolean term(int, int, int, int)", "boolean unifier(int, int, int, int)",
        "boolean variable(int, int)", "int complete(int)", "int matches(int, int)", "int node(int, int)",
        "int prove(int, int)", "int rules()", "int size(int)", "int symbol(int, boolean)", "int unifiers(int, int)",
        "int waiting()",
    };
    private static final int MIN = Integer.MIN_VALUE;
    private static final int MAX = Integer.MAX_VALUE;

    private FaceTest() { }

    public static void main(String[] args) throws ReflectiveOperationException {
        theClass();
        methods();
        constructors();
        constants();
        classesInside();
        desksApart();
        sameCallsSameAnswers();
        placesKeepTheirTerms();
        wildCalls();
        readmeExample();
        Bench.finish("FaceTest");
    }

    /** "public final class EquationDesk" */
    private static void theClass() {
        int marks = EquationDesk.class.getModifiers();
        Bench.due("public", Modifier.isPublic(marks), true);
        Bench.due("final", Modifier.isFinal(marks), true);
        Bench.due("interfaces", EquationDesk.class.getInterfaces().length, 0);
        Bench.due("above it", EquationDesk.class.getSuperclass().getName(), "java.lang.Object");
        Bench.due("its package", EquationDesk.class.getPackageName(), "");
    }

    private static String told(Method method) {
        List<String> types = new ArrayList<>();
        for (Class<?> type : method.getParameterTypes()) {
            types.add(type.getSimpleName());
        }
        return method.getReturnType().getSimpleName() + " " + method.getName() + "(" + String.join(", ", types) + ")";
    }

    private static void methods() {
        TreeSet<String> shown = new TreeSet<>();
        TreeSet<String> names = new TreeSet<>();
        for (Method method : EquationDesk.class.getDeclaredMethods()) {
            if (!Modifier.isPrivate(method.getModifiers())) {
                shown.add(told(method));
                names.add(method.getName());
                Bench.due(told(method) + " is public", Modifier.isPublic(method.getModifiers()), true);
                Bench.due(told(method) + " is static", Modifier.isStatic(method.getModifiers()), false);
                Bench.due(told(method) + " tells exceptions", method.getExceptionTypes().length, 0);
            }
        }
        Bench.due("the face", String.join("; ", shown), String.join("; ", new TreeSet<>(Arrays.asList(FACE))));
        for (Method method : EquationDesk.class.getDeclaredMethods()) {
            boolean hidden = Modifier.isPrivate(method.getModifiers());
            Bench.due("a private " + method.getName(), hidden && names.contains(method.getName()), false);
        }
    }

    /** "public EquationDesk();" */
    private static void constructors() {
        Constructor<?>[] all = EquationDesk.class.getDeclaredConstructors();
        Bench.due("constructors", all.length, 1);
        Bench.due("it is public", Modifier.isPublic(all[0].getModifiers()), true);
        Bench.due("its parameters", all[0].getParameterCount(), 0);
    }

    /** "public static final int NONE = -1;" and no other member that can be seen. */
    private static void constants() throws ReflectiveOperationException {
        TreeSet<String> shown = new TreeSet<>();
        for (Field field : EquationDesk.class.getDeclaredFields()) {
            if (!Modifier.isPrivate(field.getModifiers())) {
                shown.add(Modifier.toString(field.getModifiers()) + " " + field.getType() + " " + field.getName());
            }
        }
        Bench.due("constants", String.join("; ", shown), "public static final int NONE");
        Bench.due("NONE", EquationDesk.class.getField("NONE").getInt(null), -1);
    }

    private static void classesInside() {
        for (Class<?> inside : EquationDesk.class.getDeclaredClasses()) {
            int marks = inside.getModifiers();
            Bench.due(inside + " is static", Modifier.isStatic(marks), true);
            Bench.due(inside + " can be seen", Modifier.isPublic(marks) || Modifier.isProtected(marks), false);
        }
    }

    /** What is done on a desk is not seen on another one, nor is the FUEL that it takes. */
    private static void desksApart() {
        Bench one = new Bench("a0 f1 c2!");
        Bench two = new Bench("a0 f1 c2!");
        Bench three = new Bench("f1 a0 g2");
        one.equation("f(x0)", "a");
        Bench.due("waiting there", two.desk.waiting(), 0);
        two.equation("c(x0,a)", "x0");
        Bench.due("complete here", one.desk.complete(30), 1);
        Bench.due("waiting there", two.desk.waiting(), 1);
        Bench.due("rules there", two.desk.rules(), 0);
        Bench.due("complete there", two.desk.complete(30), 1);
        Bench.due("rules here", one.rules(), "f(x0) -> a");
        Bench.due("rules there", two.rules(), "c(x0,a) -> x0");
        Bench.due("rules elsewhere", three.rules(), "");
        Bench.due("reduced here", one.reduced("c(f(x1),a)"), "c(a,a)");
        Bench.due("reduced there", two.reduced("c(f(x1),a)"), "f(x1)");
        Bench.due("reduced elsewhere", three.reduced("g(f(x1),a)"), "g(f(x1),a)");
        Bench.due("more than all here", one.spend(120000), false);
        Bench.due("OUT here", one.matches("x0", "a"), -1);
        Bench.due("not there", two.matches("x0", "a"), 1);
        Bench.due("all elsewhere", three.spend(120000), true);
    }

    /** The same calls on two new desks, one behind the other and by turns. */
    private static void sameCallsSameAnswers() {
        for (int seed = 0; seed < 20; seed++) {
            long alone = answers(seed, new EquationDesk(), new EquationDesk(), false);
            EquationDesk desk = new EquationDesk();
            Bench.due("again, seed " + seed, answers(seed, desk, new EquationDesk(), false), alone);
            Bench.due("by turns, seed " + seed, answers(seed, new EquationDesk(), new EquationDesk(), true), alone);
        }
    }

    private static long answers(int seed, EquationDesk desk, EquationDesk other, boolean byTurns) {
        Random random = new Random(seed);
        Random another = new Random(seed + 1000);
        long all = 0;
        for (int i = 0; i < 512; i++) {
            all = all * 31 + likelyCall(desk, random);
            if (byTurns) {
                likelyCall(other, another);
            }
        }
        return all;
    }

    private static int likelyCall(EquationDesk desk, Random random) {
        int a = random.nextInt(16);
        int b = random.nextInt(16);
        int to = random.nextInt(16);
        switch (random.nextInt(14)) {
            case 0: return desk.symbol(random.nextInt(3), random.nextBoolean());
            case 1: return told(desk.variable(to, random.nextInt(6)));
            case 2: case 3: case 4: return told(desk.term(to, random.nextInt(10), a, b));
            case 5: return told(desk.match(a, b, 0, random.nextInt(6), to));
            case 6: return told(desk.unifier(a, b, 0, to));
            case 7: return told(desk.equation(a, b));
            case 8: return desk.complete(random.nextInt(4));
            case 9: return told(desk.reduce(a, to));
            case 10: return desk.prove(a, b);
            case 11: return desk.node(a, random.nextInt(4));
            case 12: return desk.rules();
            default: return desk.waiting();
        }
    }

    private static int told(boolean answer) {
        return answer ? 1 : 0;
    }

    /** A place that gets a term of another one, of a rule or a pair keeps it when those change. */
    private static void placesKeepTheirTerms() {
        Bench bench = new Bench("a0 b0 f1 c2!");
        EquationDesk desk = bench.desk;
        bench.put(0, "c(b,f(x1))").put(1, "x0");
        Bench.due("reduce(0, 2)", desk.reduce(0, 2), true);
        Bench.due("match(1, 0, 0, 0, 3)", desk.match(1, 0, 0, 0, 3), true);
        Bench.due("unifier(0, 0, 0, 4)", desk.unifier(0, 0, 0, 4), true);
        Bench.due("f of it", desk.term(5, 2, 0, 0), true);
        bench.put(0, "a");
        for (int place = 2; place <= 4; place++) {
            Bench.due("place " + place, bench.show(place), "c(b,f(x1))");
        }
        Bench.due("place 5", bench.show(5), "f(c(b,f(x1)))");
        bench.put(0, "f(b)").put(1, "b");
        Bench.due("equation(0, 1)", desk.equation(0, 1), true);
        bench.put(0, "a").put(1, "a");
        Bench.due("the pair", bench.pair(0), "f(b) = b");
        Bench.due("pair(0, true, 2)", desk.pair(0, true, 2), true);
        Bench.due("complete(1)", desk.complete(1), 0);
        Bench.due("rule(0, true, 3)", desk.rule(0, true, 3), true);
        bench.equation("b", "a");
        Bench.due("complete(30)", desk.complete(30), 1);
        Bench.due("the rules", bench.rules(), "b -> a; f(a) -> a");
        Bench.due("place 2", bench.show(2), "b");
        Bench.due("place 3", bench.show(3), "b");
    }

    /** Any arguments in any state, past the 512th call too: nothing is thrown. */
    private static void wildCalls() {
        int[] wild = {MIN, MIN + 1, -101, -2, -1, 0, 1, 2, 3, 5, 6, 9, 10, 15, 16, 24, 30, 31, 33, 59, 60, 100, 105, MAX - 1, MAX};
        for (int seed = 0; seed < 40; seed++) {
            Random random = new Random(seed);
            EquationDesk desk = new EquationDesk();
            for (int i = 0; i < 1500; i++) {
                int[] n = new int[5];
                for (int k = 0; k < n.length; k++) {
                    n[k] = random.nextInt(4) == 0 ? wild[random.nextInt(wild.length)] : random.nextInt(10);
                }
                try {
                    wildCall(desk, random.nextInt(26), n, random.nextBoolean());
                } catch (RuntimeException | Error thrown) {
                    Bench.due("seed " + seed + " call " + i, thrown.toString(), "an answer");
                }
            }
        }
    }

    private static void wildCall(EquationDesk desk, int which, int[] n, boolean yes) {
        switch (which) {
            case 0: desk.symbol(n[0], yes); break;
            case 1: desk.variable(n[0], n[1]); break;
            case 2: desk.size(n[0]); break;
            case 3: desk.node(n[0], n[1]); break;
            case 4: desk.same(n[0], n[1]); break;
            case 5: desk.greater(n[0], n[1]); break;
            case 6: desk.matches(n[0], n[1]); break;
            case 7: desk.match(n[0], n[1], n[2], n[3], n[4]); break;
            case 8: desk.unifiers(n[0], n[1]); break;
            case 9: desk.unifier(n[0], n[1], n[2], n[3]); break;
            case 10: case 11: desk.equation(n[0], n[1]); break;
            case 12: case 13: desk.complete(n[0]); break;
            case 14: desk.rules(); break;
            case 15: desk.rule(n[0], yes, n[1]); break;
            case 16: desk.waiting(); break;
            case 17: desk.pair(n[0], yes, n[1]); break;
            case 18: desk.reduce(n[0], n[1]); break;
            case 19: desk.prove(n[0], n[1]); break;
            default: desk.term(n[0], n[1], n[2], n[3]); break;
        }
    }

    /** The calls of README.md, with the answers that it tells. */
    private static void readmeExample() {
        EquationDesk desk = new EquationDesk();
        int zero = desk.symbol(0, false);
        int plus = desk.symbol(2, true);
        Bench.due("zero", zero, 0);
        Bench.due("plus", plus, 1);
        Bench.due("variable", desk.variable(1, 0), true);
        Bench.due("term", desk.term(2, zero, 0, 0), true);
        Bench.due("term", desk.term(3, plus, 2, 1), true);
        Bench.due("node 0", desk.node(3, 0), 1);
        Bench.due("node 1", desk.node(3, 1), 100);
        Bench.due("node 2", desk.node(3, 2), 0);
        Bench.due("greater", desk.greater(3, 1), true);
        Bench.due("variable", desk.variable(4, 5), true);
        Bench.due("term", desk.term(4, plus, 4, 1), true);
        Bench.due("matches", desk.matches(4, 3), 2);
        Bench.due("match", desk.match(4, 3, 1, 5, 5), true);
        Bench.due("it", desk.same(5, 1), true);
        Bench.due("unifiers", desk.unifiers(3, 2), 0);
        Bench.due("equation", desk.equation(3, 1), true);
        Bench.due("complete", desk.complete(30), 1);
        Bench.due("rules", desk.rules(), 1);
        Bench.due("rule", desk.rule(0, true, 6), true);
        Bench.due("it", desk.same(6, 1), true);
        Bench.due("reduce", desk.reduce(3, 7), true);
        Bench.due("it", desk.same(7, 1), true);
        Bench.due("prove", desk.prove(3, 1), 1);
        Bench.due("prove", desk.prove(3, 2), 0);
        Bench.due("no such place", desk.size(16), EquationDesk.NONE);
    }
}
