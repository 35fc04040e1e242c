/** The promises one by one. */
public final class PromiseTest {
    private PromiseTest() { }

    public static void main(String[] args) {
        newObject();
        Bench.finish("PromiseTest");
    }

    private static void newObject() {
        EquationDesk desk = new EquationDesk();
        Bench.due("rules()", desk.rules(), 0);
        Bench.due("waiting()", desk.waiting(), 0);
    }
}
