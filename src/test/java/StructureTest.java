/** Promises 8 to 11: node, cone, below, depth. */
public final class StructureTest {
    public static void main(String[] args) {
        nodesOfEachKind();
        users();
        cones();
        inputsBelow();
        depths();
        wrongInputs();
        Checks.end();
    }

    /** Inputs 2, 4, 6; 8 of 2 and 4, 10 of 4 and 6, 12 of 9 and 11, 14 of 2 and 13; 16 an input over nothing. */
    private static GateBench sample() {
        GateBench x = Checks.withInputs(3);
        x.and(2, 4);
        x.and(6, 4);
        x.and(11, 9);
        x.and(13, 2);
        x.input();
        return x;
    }

    private static void nodesOfEachKind() {
        GateBench x = sample();
        int[][] want = {
            {0, -1, -1}, {1, -1, -1}, {1, -1, -1}, {1, -1, -1},
            {2, 2, 4}, {2, 4, 6}, {2, 9, 11}, {2, 2, 13}, {1, -1, -1},
        };
        for (int n = 0; n < want.length; n++) {
            for (int w = 0; w < 3; w++) {
                int node = n;
                int what = w;
                Checks.due("node(" + node + ", " + what + ")", want[node][what], () -> x.node(node, what));
            }
        }
    }

    private static void users() {
        GateBench x = sample();
        int[] want = {0, 2, 2, 1, 1, 1, 1, 0, 0};
        for (int n = 0; n < want.length; n++) {
            int node = n;
            Checks.due("node(" + node + ", 3)", want[node], () -> x.node(node, 3));
        }
        x.and(4, 2);
        x.and(0, 4);
        Checks.due("node(1, 3) with no new gate", 2, () -> x.node(1, 3));
        x.and(3, 4);
        x.and(3, 5);
        Checks.due("node(1, 3) with two new gates", 4, () -> x.node(1, 3));
    }

    private static void everyLiteral(String what, GateBench x, int[] want) {
        for (int i = 0; i < 2 * want.length; i++) {
            int literal = i;
            Checks.due(what + "(" + literal + ")", want[literal / 2],
                () -> what.equals("cone") ? x.cone(literal) : x.depth(literal));
        }
    }

    private static void cones() {
        GateBench x = sample();
        everyLiteral("cone", x, new int[] {0, 0, 0, 0, 1, 1, 3, 4, 0});
        everyLiteral("cone", x, new int[] {0, 0, 0, 0, 1, 1, 3, 4, 0});
        Checks.due("cone(14), each gate counted once", 4, () -> x.cone(14));
        Checks.due("and(15, 8)", 18, () -> x.and(15, 8));
        Checks.due("cone(18)", 5, () -> x.cone(18));
    }

    private static void inputsBelow() {
        GateBench x = sample();
        boolean[][] want = {
            {false, true, false, false, true, false, true, true, false},
            {false, false, true, false, true, true, true, true, false},
            {false, false, false, true, false, true, true, true, false},
            {false, false, false, false, false, false, false, false, true},
        };
        int[] nodes = {1, 2, 3, 8};
        for (int row = 0; row < nodes.length; row++) {
            for (int i = 0; i < 18; i++) {
                int node = nodes[row];
                int literal = i;
                Checks.due("below(" + node + ", " + literal + ")", want[row][literal / 2],
                    () -> x.below(node, literal));
            }
        }
    }

    private static void depths() {
        GateBench x = sample();
        everyLiteral("depth", x, new int[] {0, 0, 0, 0, 1, 1, 2, 3, 0});
        GateBench y = Checks.withInputs(100);
        int all = 2;
        for (int i = 2; i <= 100; i++) {
            all = y.and(2 * i, all);
        }
        int top = all;
        Checks.due("depth of a chain", 99, () -> y.depth(top));
        Checks.due("cone of a chain", 99, () -> y.cone(top));
        Checks.due("below of a chain's first", true, () -> y.below(1, top));
        Checks.due("below of a chain's last", true, () -> y.below(100, top + 1));
    }

    private static void wrongInputs() {
        GateBench x = sample();
        int[] none = {-1, 18, 19, 400, Integer.MAX_VALUE, Integer.MIN_VALUE};
        for (int literal : none) {
            Checks.illegalArgument("cone(" + literal + ")", () -> x.cone(literal));
            Checks.illegalArgument("depth(" + literal + ")", () -> x.depth(literal));
            Checks.illegalArgument("below(1, " + literal + ")", () -> x.below(1, literal));
        }
        int[] noInput = {-1, 0, 4, 7, 9, Integer.MAX_VALUE, Integer.MIN_VALUE};
        for (int node : noInput) {
            Checks.illegalArgument("below(" + node + ", 2)", () -> x.below(node, 2));
            Checks.illegalArgument("below(" + node + ", 14)", () -> x.below(node, 14));
        }
        int[] noNode = {-1, 9, Integer.MAX_VALUE, Integer.MIN_VALUE};
        for (int node : noNode) {
            Checks.illegalArgument("node(" + node + ", 0)", () -> x.node(node, 0));
        }
        int[] noWhat = {-1, 4, Integer.MAX_VALUE, Integer.MIN_VALUE};
        for (int what : noWhat) {
            Checks.illegalArgument("node(0, " + what + ")", () -> x.node(0, what));
            Checks.illegalArgument("node(1, " + what + ")", () -> x.node(1, what));
            Checks.illegalArgument("node(4, " + what + ")", () -> x.node(4, what));
        }
    }
}
