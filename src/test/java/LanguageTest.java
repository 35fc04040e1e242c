import com.sun.management.ThreadMXBean;
import java.io.IOException;
import java.lang.management.ManagementFactory;
import java.lang.reflect.Field;
import java.lang.reflect.Method;
import java.lang.reflect.Modifier;
import java.nio.file.Files;
import java.nio.file.Path;
import java.util.ArrayList;
import java.util.Arrays;
import java.util.List;
import java.util.Set;
import java.util.regex.Matcher;
import java.util.regex.Pattern;

/**
 * What of ../shared/LANGUAGE.md can be seen in the program's text and classes, rule by rule, and
 * how much room a run of dear calls takes.
 */
public final class LanguageTest {
    private static final Path PROGRAM = Path.of("src/main/java/EquationDesk.java");
    private static final int MOST_CLASSES = 12;
    private static final int MOST_FIELDS = 20;
    private static final int MOST_PARAMETERS = 7;
    private static final int MOST_LINES = 60;
    private static final int FACE = 19;
    /** A hundredth of 7.3 million elements of 4 bytes. */
    private static final long MOST_BYTES = 292000;

    private LanguageTest() { }

    public static void main(String[] args) throws IOException {
        String code = withoutComments(Files.readString(PROGRAM));
        oneFile();
        words(code);
        library(code);
        staticFields();
        sizes();
        lengths();
        room();
        Bench.finish("LanguageTest");
    }

    private static String withoutComments(String text) {
        return text.replaceAll("(?s)/\\*.*?\\*/", "").replaceAll("//[^\n]*", "");
    }

    /** "The program is one file .. without a package line" */
    private static void oneFile() throws IOException {
        try (var files = Files.walk(Path.of("src/main"))) {
            Bench.due("files", files.filter(Files::isRegularFile).count(), 1);
        }
    }

    /** Rules 2, 6 and 7: what the program does without. */
    private static void words(String code) {
        String[] none = {
            "->", "::", "\\bpackage\\b", "\\bthrows?\\b", "\\btry\\b", "\\bcatch\\b", "\\bfinally\\b", "\\bsynchronized\\b",
            "\\bassert\\b", "\\bvar\\b", "\\bprotected\\b", "\\bnative\\b", "\\bvolatile\\b", "\\bstatic\\s*\\{", "@\\w+",
            "\\bimport\\s+static\\b", "\\[\\]\\[\\]\\[\\]", "\\b(equals|hashCode|toString)\\b", "\\b(double|float)\\b",
        };
        for (String one : none) {
            Matcher found = Pattern.compile(one).matcher(code);
            Bench.due("rules 2, 6: " + one, found.find() ? found.group() : "none", "none");
        }
    }

    /** Rule 4: "only what stands here" */
    private static void library(String code) {
        Matcher imports = Pattern.compile("import\\s+([\\w.]+)").matcher(code);
        Set<String> known = Set.of("java.util.Arrays", "java.util.ArrayList", "java.util.List", "java.util.Iterator");
        while (imports.find()) {
            Bench.due("import " + imports.group(1), known.contains(imports.group(1)), true);
        }
        Matcher calls = Pattern.compile("\\b(System|Arrays|Math|Integer|Long|Thread|Runtime|Character|Object)\\.(\\w+)").matcher(code);
        Set<String> allowed = Set.of("System.arraycopy", "Arrays.copyOf", "Arrays.copyOfRange", "Arrays.fill", "Math.max",
            "Math.min", "Math.abs", "Integer.compare", "Integer.bitCount");
        while (calls.find()) {
            Bench.due("rule 4: " + calls.group(), allowed.contains(calls.group()), true);
        }
    }

    private static List<Class<?>> classes() {
        List<Class<?>> all = new ArrayList<>();
        all.add(EquationDesk.class);
        all.addAll(Arrays.asList(EquationDesk.class.getDeclaredClasses()));
        return all;
    }

    /** Rule 5: "Static fields are final" */
    private static void staticFields() {
        Set<String> types = Set.of("int", "long", "boolean", "char", "String", "int[]", "long[]", "char[]", "byte[]");
        for (Class<?> one : classes()) {
            for (Field field : one.getDeclaredFields()) {
                if (Modifier.isStatic(field.getModifiers())) {
                    Bench.due("rule 5: " + field, Modifier.isFinal(field.getModifiers()), true);
                    Bench.due("rule 5: " + field, types.contains(field.getType().getSimpleName()), true);
                }
            }
        }
    }

    /** Rule 11: parameters, classes, fields; and rule 1 of names inside. */
    private static void sizes() {
        Bench.due("rule 11: classes", classes().size() <= MOST_CLASSES, true);
        for (Class<?> one : classes()) {
            int fields = 0;
            for (Field field : one.getDeclaredFields()) {
                fields += Modifier.isStatic(field.getModifiers()) ? 0 : 1;
            }
            Bench.due("rule 11: fields of " + one, fields <= MOST_FIELDS, true);
            for (Method method : one.getDeclaredMethods()) {
                Bench.due("rule 11: " + method, method.getParameterCount() <= MOST_PARAMETERS, true);
                Bench.due("rule 2: " + method, method.isSynthetic(), false);
            }
            Bench.due("rule 2: classes in " + one, one == EquationDesk.class || one.getDeclaredClasses().length == 0, true);
        }
    }

    /** Rule 11: "Methods stay short", from a line that ends with a brace to the one that closes it. */
    private static void lengths() throws IOException {
        List<String> lines = Files.readAllLines(PROGRAM);
        int methods = 0;
        Pattern head = Pattern.compile("( {4}| {8})(?!if|for|while|return|switch)\\w[\\w\\[\\] ]*\\(.*[^;]");
        for (int i = 0; i < lines.size(); i++) {
            Matcher found = head.matcher(lines.get(i));
            if (found.matches()) {
                int end = i;
                while (end < lines.size() && !lines.get(end).equals(found.group(1) + "}")) {
                    end++;
                }
                Bench.due("rule 11: lines of " + lines.get(i).trim(), end - i + 1 <= MOST_LINES, true);
                methods++;
            }
        }
        Bench.due("methods that were looked at", methods >= FACE, true);
    }

    private static long made() {
        return ((ThreadMXBean) ManagementFactory.getThreadMXBean()).getThreadAllocatedBytes(Thread.currentThread().getId());
    }

    /** Rule 12: 512 calls of each kind that makes most, the desk with them. */
    private static void room() {
        String[] kinds = {"unifiers", "ways", "matches", "complete", "reduce", "terms"};
        for (int kind = 0; kind < kinds.length; kind++) {
            dearCalls(kind);
            long before = made();
            dearCalls(kind);
            Bench.due("rule 12: room of " + kinds[kind], made() - before < MOST_BYTES, true);
        }
    }

    private static void dearCalls(int kind) {
        EquationDesk desk = new EquationDesk();
        desk.symbol(2, true);
        desk.symbol(0, false);
        desk.symbol(1, false);
        desk.symbol(2, false);
        desk.term(2, 1, 0, 0);
        tree(desk, 0, 0);
        tree(desk, 1, 3);
        if (kind == 3 || kind == 4) {
            askLaws(desk);
            desk.complete(10);
        }
        for (int i = 0; i < 470; i++) {
            switch (kind) {
                case 0: desk.unifier(0, 1, i % 32, 3); break;
                case 1: desk.unifiers(0, 1); break;
                case 2: desk.match(0, 0, i, i % 6, 3); break;
                case 3: desk.complete(30); break;
                case 4: desk.reduce(i % 2, 3); break;
                default: desk.term(3, 2, i % 2, 0); break;
            }
        }
    }

    /** A term of 23 nodes, of commutative symbols and three variables from a number on. */
    private static void tree(EquationDesk desk, int place, int variable) {
        for (int i = 0; i < 3; i++) {
            desk.variable(4 + i, variable + i);
        }
        desk.term(7, 0, 4, 5);
        desk.term(8, 0, 5, 6);
        desk.term(9, 0, 7, 8);
        desk.term(10, 0, 9, 7);
        desk.term(11, 0, 10, 9);
        desk.term(place, 0, 11, 4);
    }

    /** The commutative one has 1 and an inverse, and the other one goes through it: steps without an end. */
    private static void askLaws(EquationDesk desk) {
        desk.term(12, 0, 4, 2);
        desk.equation(12, 4);
        desk.term(12, 2, 4, 0);
        desk.term(12, 0, 12, 4);
        desk.equation(12, 2);
        desk.term(12, 0, 5, 6);
        desk.term(12, 3, 4, 12);
        desk.term(13, 3, 4, 5);
        desk.term(14, 3, 4, 6);
        desk.term(14, 0, 13, 14);
        desk.equation(12, 14);
    }
}
