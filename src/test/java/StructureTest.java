/** Promises 8 to 11: node, cone, below, depth. */
public final class StructureTest {
    public static void main(String[] args) {
        nodesOfEachKind();
        users();
        usersOfBothLiterals();
        noSuchNode();
        noSuchThing();
        cones();
        conesShareGates();
        inputsBelow();
        belowOfNoInput();
        depths();
        longestWayByEitherLiteral();
        longChain();
        noSuchLiteral();
        Checks.end();
    }

    /** Inputs 2, 4, 6; 8 of 2 and 4, 10 of 4 and 6, 12 of 9 and 11, 14 of 2 and 13; 16 an input over nothing. */
    private static GateBench sample() {
        GateBench x = Checks.withInputs(3);
        x.and(2, 4);
        x.and(6, 4);
        x.and(11, 9);
        x.and(13, 2);
        x.input();
        return x;
    }

    private static void nodesOfEachKind() {
        Checks.sentence("promise 8: 0 the constant, 1 an input, 2 a gate; a gate's literals (NONE otherwise)");
        GateBench x = sample();
        int[][] want = {
            {0, -1, -1}, {1, -1, -1}, {1, -1, -1}, {1, -1, -1},
            {2, 2, 4}, {2, 4, 6}, {2, 9, 11}, {2, 2, 13}, {1, -1, -1},
        };
        for (int n = 0; n < want.length; n++) {
            for (int w = 0; w < 3; w++) {
                int node = n;
                int what = w;
                Checks.due("node(" + node + ", " + what + ")", want[node][what], () -> x.node(node, what));
            }
        }
    }

    private static void users() {
        Checks.sentence("promise 8: how many gates have it in one of their literals");
        GateBench x = sample();
        int[] want = {0, 2, 2, 1, 1, 1, 1, 0, 0};
        for (int n = 0; n < want.length; n++) {
            int node = n;
            Checks.due("node(" + node + ", 3)", want[node], () -> x.node(node, 3));
        }
        x.and(4, 2);
        x.and(0, 4);
        x.and(1, 2);
        Checks.due("node(0, 3), which no gate has", 0, () -> x.node(0, 3));
        Checks.due("node(1, 3) with no new gate", 2, () -> x.node(1, 3));
    }

    private static void usersOfBothLiterals() {
        Checks.sentence("promise 8: in one of their literals, negated or not, the first or the second");
        GateBench x = Checks.withInputs(3);
        int[][] pairs = {{2, 4}, {3, 4}, {2, 5}, {3, 5}, {4, 6}, {5, 7}};
        int[] ofFirst = {1, 2, 3, 4, 4, 4};
        int[] ofSecond = {1, 2, 3, 4, 5, 6};
        int[] ofThird = {0, 0, 0, 0, 1, 2};
        for (int i = 0; i < pairs.length; i++) {
            x.and(pairs[i][0], pairs[i][1]);
            Checks.due("node(1, 3) of " + (i + 1) + " gates", ofFirst[i], () -> x.node(1, 3));
            Checks.due("node(2, 3) of " + (i + 1) + " gates", ofSecond[i], () -> x.node(2, 3));
            Checks.due("node(3, 3) of " + (i + 1) + " gates", ofThird[i], () -> x.node(3, 3));
        }
        x.and(8, 6);
        Checks.due("node(4, 3), a gate that a gate has", 1, () -> x.node(4, 3));
        Checks.due("node(1, 3), had by it over that gate alone", 4, () -> x.node(1, 3));
    }

    private static void noSuchNode() {
        Checks.sentence("promise 8: illegal argument");
        GateBench x = sample();
        int[] noNode = {-1, 9, 10, 15, 16, 20000, Integer.MAX_VALUE, Integer.MIN_VALUE};
        for (int node : noNode) {
            for (int w = 0; w <= 3; w++) {
                int what = w;
                Checks.illegalArgument("node(" + node + ", " + what + ")", () -> x.node(node, what));
            }
        }
        Checks.due("node(8, 0), the last one", 1, () -> x.node(8, 0));
    }

    private static void noSuchThing() {
        Checks.sentence("promise 8: illegal argument also if what is none of these");
        GateBench x = sample();
        int[] noWhat = {-1, 4, 5, Integer.MAX_VALUE, Integer.MIN_VALUE};
        for (int what : noWhat) {
            Checks.illegalArgument("node(0, " + what + ")", () -> x.node(0, what));
            Checks.illegalArgument("node(1, " + what + ")", () -> x.node(1, what));
            Checks.illegalArgument("node(4, " + what + ")", () -> x.node(4, what));
            Checks.illegalArgument("node(9, " + what + ")", () -> x.node(9, what));
        }
    }

    private static void everyLiteral(String what, GateBench x, int[] want) {
        for (int i = 0; i < 2 * want.length; i++) {
            int literal = i;
            Checks.due(what + "(" + literal + ")", want[literal / 2],
                () -> what.equals("cone") ? x.cone(literal) : x.depth(literal));
        }
    }

    private static void cones() {
        Checks.sentence("promise 9: how many gates (its own with them)");
        GateBench x = sample();
        everyLiteral("cone", x, new int[] {0, 0, 0, 0, 1, 1, 3, 4, 0});
        everyLiteral("cone", x, new int[] {0, 0, 0, 0, 1, 1, 3, 4, 0});
        Checks.due("and(15, 8)", 18, () -> x.and(15, 8));
        Checks.due("cone(18)", 5, () -> x.cone(18));
        x.and(3, 7);
        Checks.due("cone(18), a gate beside it being made", 5, () -> x.cone(18));
    }

    private static void conesShareGates() {
        Checks.sentence("promise 9: how many gates there are, each counted once");
        GateBench x = Checks.withInputs(3);
        int xor = x.join(1, 2, 4);
        int sum = x.join(1, xor, 6);
        int carry = x.three(2, 2, 4, 6);
        Checks.due("cone of XOR", 3, () -> x.cone(xor));
        Checks.due("cone of ADD", 6, () -> x.cone(sum));
        Checks.due("cone of CARRY", 6, () -> x.cone(carry));
        Checks.due("cone of AND of both", 10, () -> x.cone(x.and(sum, carry)));
    }

    private static void inputsBelow() {
        Checks.sentence("promise 10: whether an input is below a literal (over gates, or itself)");
        GateBench x = sample();
        boolean[][] want = {
            {false, true, false, false, true, false, true, true, false},
            {false, false, true, false, true, true, true, true, false},
            {false, false, false, true, false, true, true, true, false},
            {false, false, false, false, false, false, false, false, true},
        };
        int[] nodes = {1, 2, 3, 8};
        for (int row = 0; row < nodes.length; row++) {
            for (int i = 0; i < 18; i++) {
                int node = nodes[row];
                int literal = i;
                Checks.due("below(" + node + ", " + literal + ")", want[row][literal / 2],
                    () -> x.below(node, literal));
            }
        }
    }

    private static void belowOfNoInput() {
        Checks.sentence("promise 10: illegal argument also if the node is no input");
        GateBench x = sample();
        int[] noInput = {-1, 0, 4, 7, 9, 15, 16, 20000, Integer.MAX_VALUE, Integer.MIN_VALUE};
        for (int node : noInput) {
            Checks.illegalArgument("below(" + node + ", 0)", () -> x.below(node, 0));
            Checks.illegalArgument("below(" + node + ", 2)", () -> x.below(node, 2));
            Checks.illegalArgument("below(" + node + ", 14)", () -> x.below(node, 14));
            Checks.illegalArgument("below(" + node + ", 18)", () -> x.below(node, 18));
        }
    }

    private static void depths() {
        Checks.sentence("promise 11: the longest way down to an input or the constant; 0 for those");
        everyLiteral("depth", sample(), new int[] {0, 0, 0, 0, 1, 1, 2, 3, 0});
    }

    private static void longestWayByEitherLiteral() {
        Checks.sentence("promise 11: the longest way, by the first literal or the second");
        GateBench x = Checks.withInputs(3);
        int deep = x.and(x.and(2, 4), 6);
        int late = x.input();
        int byFirst = x.and(deep, late);
        Checks.gate(x, byFirst / 2, deep, late);
        Checks.due("depth with the longest way by the first literal", 3, () -> x.depth(byFirst));
        int bySecond = x.and(5, byFirst + 1);
        Checks.gate(x, bySecond / 2, 5, byFirst + 1);
        Checks.due("depth with the longest way by the second literal", 4, () -> x.depth(bySecond));
        int shallow = x.and(3, 7);
        int both = x.and(shallow, bySecond + 1);
        Checks.due("depth with two gates", 5, () -> x.depth(both));
    }

    private static void longChain() {
        Checks.sentence("promises 9 to 11: over many gates");
        GateBench y = Checks.withInputs(100);
        int all = 2;
        for (int i = 2; i <= 100; i++) {
            all = y.and(2 * i, all);
        }
        int top = all;
        Checks.due("depth of a chain", 99, () -> y.depth(top));
        Checks.due("cone of a chain", 99, () -> y.cone(top));
        Checks.due("below of a chain's first", true, () -> y.below(1, top));
        Checks.due("below of a chain's last", true, () -> y.below(100, top + 1));
        Checks.due("below of a chain's last, before it came in", false, () -> y.below(100, top - 2));
    }

    private static void noSuchLiteral() {
        Checks.sentence("promises 9 to 11: illegal argument");
        GateBench x = sample();
        int[] none = {-1, -2, 18, 19, 31, 32, 400, Integer.MAX_VALUE, Integer.MIN_VALUE};
        for (int literal : none) {
            Checks.illegalArgument("cone(" + literal + ")", () -> x.cone(literal));
            Checks.illegalArgument("depth(" + literal + ")", () -> x.depth(literal));
            Checks.illegalArgument("below(1, " + literal + ")", () -> x.below(1, literal));
            Checks.illegalArgument("below(8, " + literal + ")", () -> x.below(8, literal));
        }
        Checks.due("cone(17), the last literal", 0, () -> x.cone(17));
        Checks.due("depth(17), the last literal", 0, () -> x.depth(17));
        Checks.due("below(8, 17), the last literal", true, () -> x.below(8, 17));
    }
}
