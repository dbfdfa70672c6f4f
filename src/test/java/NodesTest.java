/** Promises 1, 2, 12 and 13: a new object, input, nodes, inputs. */
public final class NodesTest {
    public static void main(String[] args) {
        newObject();
        inputsAreNumbered();
        countsTellGatesApart();
        rowsGrow();
        objectsAreApart();
        Checks.due("NONE", -1, () -> GateBench.NONE);
        Checks.end();
    }

    private static void newObject() {
        GateBench x = new GateBench();
        Checks.due("nodes() of a new one", 1, x::nodes);
        Checks.due("inputs() of a new one", 0, x::inputs);
        Checks.due("node(0, 0)", 0, () -> x.node(0, 0));
        Checks.due("value(0)", false, () -> x.value(0));
        Checks.due("value(1)", true, () -> x.value(1));
        Checks.illegalArgument("node(1, 0)", () -> x.node(1, 0));
        Checks.illegalArgument("value(2)", () -> x.value(2));
    }

    private static void inputsAreNumbered() {
        GateBench x = new GateBench();
        Checks.due("first input()", 2, x::input);
        Checks.due("second input()", 4, x::input);
        Checks.due("value(2) of a new input", false, () -> x.value(2));
        Checks.due("value(3) of a new input", true, () -> x.value(3));
        Checks.due("and(2, 4)", 6, () -> x.and(2, 4));
        Checks.due("input() behind a gate", 8, x::input);
        Checks.due("node(4, 0)", 1, () -> x.node(4, 0));
        Checks.due("value(8)", false, () -> x.value(8));
    }

    private static void countsTellGatesApart() {
        GateBench x = Checks.withInputs(3);
        Checks.due("nodes() of three inputs", 4, x::nodes);
        x.and(2, 4);
        x.and(4, 2);
        Checks.due("nodes() with one gate", 5, x::nodes);
        Checks.due("inputs() with one gate", 3, x::inputs);
    }

    private static void rowsGrow() {
        GateBench x = Checks.withInputs(200);
        Checks.due("nodes() of 200 inputs", 201, x::nodes);
        Checks.due("inputs() of 200 inputs", 200, x::inputs);
        Checks.due("node(200, 0)", 1, () -> x.node(200, 0));
        Checks.illegalArgument("node(201, 0)", () -> x.node(201, 0));
    }

    private static void objectsAreApart() {
        GateBench x = Checks.withInputs(2);
        GateBench y = Checks.withInputs(1);
        x.set(1, true);
        Checks.due("value(2) of another object", false, () -> y.value(2));
        Checks.due("nodes() of another object", 2, y::nodes);
    }
}
