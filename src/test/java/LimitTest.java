/**
 * The illegal state of promises 2 to 5. No run of 512 calls comes to 20000 nodes, so what is told here goes beyond what
 * is promised; it holds the guard in its place.
 */
public final class LimitTest {
    private static final int MOST = 20000;

    public static void main(String[] args) {
        fullBench();
        halfMadeStays();
        Checks.end();
    }

    private static void fullBench() {
        GateBench x = Checks.withInputs(MOST - 2);
        int gate = x.and(2, 4);
        Checks.due("nodes() of a full one", MOST, x::nodes);
        Checks.illegalState("input() of a full one", x::input);
        Checks.illegalState("and(2, 6) of a full one", () -> x.and(2, 6));
        Checks.illegalState("join(0, 2, 6) of a full one", () -> x.join(0, 2, 6));
        Checks.illegalState("join(1, 2, 6) of a full one", () -> x.join(1, 2, 6));
        for (int k = 0; k <= 2; k++) {
            int kind = k;
            Checks.illegalState("three(" + kind + ", 2, 6, 8) of a full one", () -> x.three(kind, 2, 6, 8));
        }
        Checks.illegalArgument("and(2, 40000) of a full one", () -> x.and(2, 2 * MOST));
        Checks.illegalArgument("join(2, 2, 6) of a full one", () -> x.join(2, 2, 6));
        Checks.illegalArgument("three(3, 2, 6, 8) of a full one", () -> x.three(3, 2, 6, 8));
        Checks.due("and(4, 2), which there is", gate, () -> x.and(4, 2));
        Checks.due("and(2, 3), which needs none", 0, () -> x.and(2, 3));
        Checks.due("nodes() after what was refused", MOST, x::nodes);
        Checks.due("inputs() after what was refused", MOST - 2, x::inputs);
        Checks.due("cone of the gate", 1, () -> x.cone(gate));
    }

    private static void halfMadeStays() {
        GateBench x = Checks.withInputs(MOST - 3);
        Checks.illegalState("join(1, 2, 4) with room for two", () -> x.join(1, 2, 4));
        Checks.due("nodes() with what was made on the way", MOST, x::nodes);
        Checks.due("node(19998, 1)", 2, () -> x.node(MOST - 2, 1));
        Checks.due("node(19998, 2)", 5, () -> x.node(MOST - 2, 2));
        Checks.due("node(19999, 1)", 3, () -> x.node(MOST - 1, 1));
        Checks.due("node(19999, 2)", 4, () -> x.node(MOST - 1, 2));
        Checks.due("node(1, 3)", 2, () -> x.node(1, 3));
    }
}
