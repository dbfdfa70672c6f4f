/** Promises 1, 2, 12 and 13 (a new object, input, nodes, inputs), and what the terms say of nodes and literals. */
public final class NodesTest {
    public static void main(String[] args) {
        newObject();
        noneIsMinusOne();
        nodesStandInTheOrderOfMaking();
        constantIsAlwaysFalse();
        literalsComeInPairs();
        notIsTheOtherOneOfTheNode();
        newInputIsFalse();
        inputAnswersItsLiteral();
        nodesCountsAll();
        inputsCountsInputsAlone();
        objectsAreApart();
        Checks.end();
    }

    private static void newObject() {
        Checks.sentence("promise 1: the constant alone");
        GateBench x = new GateBench();
        Checks.due("nodes() of a new one", 1, x::nodes);
        Checks.due("inputs() of a new one", 0, x::inputs);
        int[] constant = {0, GateBench.NONE, GateBench.NONE, 0};
        for (int what = 0; what < 4; what++) {
            int asked = what;
            Checks.due("node(0, " + asked + ")", constant[asked], () -> x.node(0, asked));
        }
        for (int literal = 0; literal <= 1; literal++) {
            int asked = literal;
            Checks.due("value(" + asked + ")", asked == 1, () -> x.value(asked));
            Checks.due("cone(" + asked + ")", 0, () -> x.cone(asked));
            Checks.due("depth(" + asked + ")", 0, () -> x.depth(asked));
        }
        Checks.illegalArgument("node(1, 0)", () -> x.node(1, 0));
        Checks.illegalArgument("value(2)", () -> x.value(2));
        Checks.illegalArgument("set(0, false)", () -> x.set(0, false));
        Checks.illegalArgument("below(0, 0)", () -> x.below(0, 0));
        Checks.illegalArgument("below(1, 0)", () -> x.below(1, 0));
    }

    private static void noneIsMinusOne() {
        Checks.sentence("terms: NONE = -1");
        Checks.due("NONE", -1, () -> GateBench.NONE);
    }

    private static void nodesStandInTheOrderOfMaking() {
        Checks.sentence("terms: in the order in which they were made");
        GateBench x = new GateBench();
        Checks.due("first input()", 2, x::input);
        Checks.due("second input()", 4, x::input);
        Checks.due("and(2, 4)", 6, () -> x.and(2, 4));
        Checks.due("input() behind a gate", 8, x::input);
        Checks.due("and(6, 8)", 10, () -> x.and(6, 8));
        int[] kinds = {0, 1, 1, 2, 1, 2};
        for (int n = 0; n < kinds.length; n++) {
            int node = n;
            Checks.due("node(" + node + ", 0)", kinds[node], () -> x.node(node, 0));
        }
    }

    private static void constantIsAlwaysFalse() {
        Checks.sentence("terms: node 0 is the constant, always false; 0 is false, 1 is true");
        GateBench x = Checks.withInputs(2);
        x.set(1, true);
        x.set(2, true);
        x.and(2, 4);
        Checks.illegalArgument("set(0, true)", () -> x.set(0, true));
        Checks.due("value(0)", false, () -> x.value(0));
        Checks.due("value(1)", true, () -> x.value(1));
        Checks.due("node(0, 0)", 0, () -> x.node(0, 0));
    }

    private static void literalsComeInPairs() {
        Checks.sentence("terms: a literal is twice a node, or that and 1, for what it is not");
        GateBench x = Checks.withInputs(2);
        x.and(2, 4);
        x.and(3, 5);
        x.set(2, true);
        boolean[] nodes = {false, false, true, false, false};
        for (int literal = 0; literal < 10; literal++) {
            int asked = literal;
            boolean want = asked % 2 == 0 ? nodes[asked / 2] : !nodes[asked / 2];
            Checks.due("value(" + asked + ")", want, () -> x.value(asked));
        }
        Checks.illegalArgument("value(10)", () -> x.value(10));
    }

    private static void notIsTheOtherOneOfTheNode() {
        Checks.sentence("terms: NOT of a literal is the other one of its node");
        GateBench x = Checks.withInputs(2);
        int gate = x.and(2, 4);
        for (int literal = 0; literal <= gate + 1; literal++) {
            int asked = literal;
            int other = asked % 2 == 0 ? asked + 1 : asked - 1;
            Checks.due("XOR of 1 and " + asked, other, () -> x.join(1, 1, asked));
            Checks.due("AND of " + asked + " and its NOT", 0, () -> x.and(asked, other));
        }
        Checks.due("nodes()", 4, x::nodes);
    }

    private static void newInputIsFalse() {
        Checks.sentence("promise 2: a new input, which is set false");
        GateBench x = Checks.withInputs(1);
        x.set(1, true);
        // Many of them, so that some stand where the rows have just grown.
        for (int i = 0; i < 70; i++) {
            int made = x.input();
            Checks.due("value(" + made + ") of a new input", false, () -> x.value(made));
            Checks.due("value(" + (made + 1) + ") of a new input", true, () -> x.value(made + 1));
            Checks.due("set to true", false, () -> x.set(made / 2, true));
        }
    }

    private static void inputAnswersItsLiteral() {
        Checks.sentence("promise 2: its literal");
        GateBench x = new GateBench();
        for (int node = 1; node <= 70; node++) {
            Checks.due("input() number " + node, 2 * node, x::input);
        }
        Checks.due("node(70, 0)", 1, () -> x.node(70, 0));
        Checks.illegalArgument("node(71, 0)", () -> x.node(71, 0));
    }

    private static void nodesCountsAll() {
        Checks.sentence("promise 12: how many nodes there are");
        GateBench x = Checks.withInputs(3);
        Checks.due("nodes() of three inputs", 4, x::nodes);
        x.and(2, 4);
        Checks.due("nodes() with one gate", 5, x::nodes);
        x.and(4, 2);
        x.and(2, 3);
        x.and(1, 2);
        Checks.due("nodes() with no new one", 5, x::nodes);
        x.input();
        Checks.due("nodes() with an input more", 6, x::nodes);
        x.three(2, 2, 4, 6);
        Checks.due("nodes() with what CARRY had still to make", 11, x::nodes);
    }

    private static void inputsCountsInputsAlone() {
        Checks.sentence("promise 13: how many inputs there are");
        GateBench x = Checks.withInputs(3);
        Checks.due("inputs() of three", 3, x::inputs);
        x.and(2, 4);
        x.three(1, 2, 4, 6);
        Checks.due("inputs() with gates", 3, x::inputs);
        x.input();
        Checks.due("inputs() of four", 4, x::inputs);
        Checks.illegalArgument("and(-1, 2)", () -> x.and(-1, 2));
        Checks.due("inputs() after what was refused", 4, x::inputs);
    }

    private static void objectsAreApart() {
        Checks.sentence("promise 1: a new object");
        GateBench x = Checks.withInputs(2);
        x.set(1, true);
        x.and(2, 4);
        GateBench y = Checks.withInputs(1);
        Checks.due("value(2) of another object", false, () -> y.value(2));
        Checks.due("nodes() of another object", 2, y::nodes);
        Checks.due("inputs() of another object", 1, y::inputs);
        Checks.due("nodes() of the former one", 4, x::nodes);
    }
}
