/**
 * The illegal state of promises 2 to 5. No run of 512 calls comes to 20000 nodes, so what is told here goes beyond what
 * is promised; it holds the guard in its place.
 */
public final class LimitTest {
    private static final int MOST = 20000;

    public static void main(String[] args) {
        lastNode();
        inputOfAFullBench();
        whatWasMadeOnTheWayStays();
        noNewNodeNoIllegalState();
        firstNamedIsThrown();
        fullBenchIsToldAsAnyOther();
        Checks.end();
    }

    private static void lastNode() {
        Checks.sentence("illegal state: there would be more than 20000 nodes");
        GateBench x = Checks.withInputs(MOST - 2);
        Checks.due("nodes() with room for one", MOST - 1, x::nodes);
        Checks.due("input(), the last one", 2 * (MOST - 1), x::input);
        Checks.due("nodes()", MOST, x::nodes);
        GateBench y = Checks.withInputs(MOST - 2);
        Checks.due("and(2, 4), the last one", 2 * (MOST - 1), () -> y.and(2, 4));
        Checks.due("nodes()", MOST, y::nodes);
    }

    private static void inputOfAFullBench() {
        Checks.sentence("promise 2: illegal state");
        GateBench x = Checks.withInputs(MOST - 1);
        for (int i = 0; i < 3; i++) {
            Checks.illegalState("input() of a full one", x::input);
            Checks.due("nodes()", MOST, x::nodes);
            Checks.due("inputs()", MOST - 1, x::inputs);
        }
    }

    private static void whatWasMadeOnTheWayStays() {
        Checks.sentence("illegal state (what was made on the way stays)");
        for (Recipe recipe : Recipe.ALL) {
            for (int room = 0; room < recipe.gateCount; room++) {
                tooLittleRoom(recipe, room);
            }
            GateBench x = Checks.withInputs(MOST - 1 - recipe.gateCount);
            int first = MOST - recipe.gateCount;
            Checks.due(recipe.call + " with just enough room", recipe.answer(first), () -> recipe.making.on(x));
            recipe.checkGates(x, first, recipe.gateCount);
            Checks.due("nodes()", MOST, x::nodes);
            Checks.due(recipe.call + ", which there is", recipe.answer(first), () -> recipe.making.on(x));
        }
    }

    private static void tooLittleRoom(Recipe recipe, int room) {
        GateBench x = Checks.withInputs(MOST - 1 - room);
        int first = MOST - room;
        for (int time = 0; time < 2; time++) {
            Checks.illegalState(recipe.call + " with room for " + room, () -> recipe.making.on(x));
            Checks.due("nodes()", MOST, x::nodes);
            Checks.due("inputs()", first - 1, x::inputs);
            recipe.checkGates(x, first, room);
            usersAndDepthsAreThoseOf(x, first);
        }
        x.set(1, true);
        x.set(2, true);
        x.set(3, true);
        for (int node = first; node < MOST; node++) {
            int gate = node;
            boolean want = x.value(x.node(gate, 1)) && x.value(x.node(gate, 2));
            Checks.due("value of gate " + gate, want, () -> x.value(2 * gate));
            Checks.due("and of its literals", 2 * gate, () -> x.and(x.node(gate, 1), x.node(gate, 2)));
        }
    }

    private static void usersAndDepthsAreThoseOf(GateBench x, int firstGate) {
        int[] users = new int[MOST];
        int[] depths = new int[MOST];
        for (int gate = firstGate; gate < MOST; gate++) {
            int low = x.node(gate, 1) / 2;
            int high = x.node(gate, 2) / 2;
            users[low]++;
            users[high]++;
            depths[gate] = 1 + Math.max(depths[low], depths[high]);
        }
        for (int n = 0; n < MOST; n = n == 3 ? firstGate : n + 1) {
            int node = n;
            Checks.due("node(" + node + ", 3)", users[node], () -> x.node(node, 3));
            Checks.due("depth(" + 2 * node + ")", depths[node], () -> x.depth(2 * node));
        }
    }

    private static void noNewNodeNoIllegalState() {
        Checks.sentence("illegal state only where there would be more nodes");
        GateBench x = Checks.withInputs(MOST - 4);
        int xor = x.join(1, 2, 4);
        Checks.due("nodes()", MOST, x::nodes);
        Checks.due("join(1, 2, 4), which there is", xor, () -> x.join(1, 2, 4));
        Checks.due("join(1, 4, 2), which there is", xor, () -> x.join(1, 4, 2));
        Checks.due("and(2, 5), which there is", xor - 5, () -> x.and(2, 5));
        Checks.due("and(2, 3), which needs none", 0, () -> x.and(2, 3));
        Checks.due("and(1, 8), which needs none", 8, () -> x.and(1, 8));
        Checks.due("join(0, 2, 1), which needs none", 1, () -> x.join(0, 2, 1));
        Checks.due("three(0, 1, 4, 6), which needs none", 4, () -> x.three(0, 1, 4, 6));
        Checks.due("three(1, 2, 4, 1), which needs none", xor - 1, () -> x.three(1, 2, 4, 1));
        Checks.due("three(2, 2, 3, 6), which needs none", 6, () -> x.three(2, 2, 3, 6));
        Checks.illegalState("and(3, 5), which there is not", () -> x.and(3, 5));
        Checks.illegalState("three(2, 2, 4, 0), whose AND there is not", () -> x.three(2, 2, 4, 0));
    }

    private static void firstNamedIsThrown() {
        Checks.sentence("of several exceptions the one named first is thrown");
        GateBench x = Checks.withInputs(MOST - 1);
        int[] noLiteral = {-1, 2 * MOST, Integer.MAX_VALUE, Integer.MIN_VALUE};
        for (int none : noLiteral) {
            Checks.illegalArgument("and(" + none + ", 2)", () -> x.and(none, 2));
            Checks.illegalArgument("and(2, " + none + ")", () -> x.and(2, none));
            for (int k = 0; k <= 1; k++) {
                int kind = k;
                Checks.illegalArgument("join(" + kind + ", " + none + ", 2)", () -> x.join(kind, none, 2));
                Checks.illegalArgument("join(" + kind + ", 2, " + none + ")", () -> x.join(kind, 2, none));
            }
            for (int k = 0; k <= 2; k++) {
                int kind = k;
                Checks.illegalArgument("three(" + kind + ", " + none + ", 2, 4)", () -> x.three(kind, none, 2, 4));
                Checks.illegalArgument("three(" + kind + ", 2, " + none + ", 4)", () -> x.three(kind, 2, none, 4));
                Checks.illegalArgument("three(" + kind + ", 2, 4, " + none + ")", () -> x.three(kind, 2, 4, none));
            }
        }
        int[] noKind = {-1, 3, Integer.MAX_VALUE, Integer.MIN_VALUE};
        for (int kind : noKind) {
            Checks.illegalArgument("join(" + kind + ", 2, 4)", () -> x.join(kind, 2, 4));
            Checks.illegalArgument("three(" + kind + ", 2, 4, 6)", () -> x.three(kind, 2, 4, 6));
        }
        Checks.illegalArgument("join(2, 2, 4)", () -> x.join(2, 2, 4));
        Checks.illegalState("join(1, 2, 4)", () -> x.join(1, 2, 4));
        Checks.illegalState("three(2, 2, 4, 6)", () -> x.three(2, 2, 4, 6));
    }

    private static void fullBenchIsToldAsAnyOther() {
        Checks.sentence("nodes are at most 20000: the last one is told as any other");
        GateBench x = Checks.withInputs(MOST - 2);
        int gate = x.and(2, 2 * (MOST - 2));
        Checks.illegalState("input()", x::input);
        Checks.due("node of the last one", 2, () -> x.node(MOST - 1, 0));
        Checks.due("cone of the last one", 1, () -> x.cone(gate));
        Checks.due("depth of the last one", 1, () -> x.depth(gate + 1));
        Checks.due("below of the last one", true, () -> x.below(MOST - 2, gate));
        Checks.due("set of the last input", false, () -> x.set(MOST - 2, true));
        Checks.due("set of the first input", false, () -> x.set(1, true));
        Checks.due("value of the last one", true, () -> x.value(gate));
        Checks.due("value of what it is not", false, () -> x.value(gate + 1));
        Checks.illegalArgument("value(40000)", () -> x.value(2 * MOST));
        Checks.illegalArgument("node(20000, 0)", () -> x.node(MOST, 0));
        Checks.illegalArgument("set(20000, true)", () -> x.set(MOST, true));
    }
}
