/** Promise 3: and, rule by rule, each with both literals exchanged. */
public final class AndTest {
    public static void main(String[] args) {
        constantsAndEquals();
        gateWithItsLiteral();
        negatedGateWithItsLiteral();
        gatesAgainstEachOther();
        whereNoRuleFits();
        sameGateOnce();
        negatedGateOverGates();
        wrongInputs();
        Checks.end();
    }

    private static void bothWays(GateBench x, int a, int b, int want) {
        Checks.due("and(" + a + ", " + b + ")", want, () -> x.and(a, b));
        Checks.due("and(" + b + ", " + a + ")", want, () -> x.and(b, a));
    }

    private static void constantsAndEquals() {
        GateBench x = Checks.withInputs(2);
        bothWays(x, 0, 0, 0);
        bothWays(x, 0, 1, 0);
        bothWays(x, 1, 1, 1);
        bothWays(x, 0, 3, 0);
        bothWays(x, 1, 3, 3);
        bothWays(x, 1, 4, 4);
        bothWays(x, 3, 3, 3);
        bothWays(x, 4, 5, 0);
        Checks.due("nodes()", 3, x::nodes);
    }

    private static void gateWithItsLiteral() {
        GateBench x = Checks.withInputs(2);
        bothWays(x, 3, 4, 6);
        bothWays(x, 6, 3, 6);
        bothWays(x, 6, 4, 6);
        bothWays(x, 6, 2, 0);
        bothWays(x, 6, 5, 0);
        Checks.due("nodes()", 4, x::nodes);
    }

    private static void negatedGateWithItsLiteral() {
        GateBench x = Checks.withInputs(2);
        bothWays(x, 2, 4, 6);
        bothWays(x, 7, 3, 3);
        bothWays(x, 7, 5, 5);
        Checks.due("nodes()", 4, x::nodes);
        bothWays(x, 7, 4, 8);
        Checks.due("node(4, 1)", 3, () -> x.node(4, 1));
        Checks.due("node(4, 2)", 4, () -> x.node(4, 2));
        bothWays(x, 7, 2, 10);
        Checks.due("node(5, 1)", 2, () -> x.node(5, 1));
        Checks.due("node(5, 2)", 5, () -> x.node(5, 2));
        bothWays(x, 2, 5, 10);
    }

    private static void gatesAgainstEachOther() {
        GateBench x = Checks.withInputs(3);
        bothWays(x, 2, 4, 8);
        bothWays(x, 3, 6, 10);
        bothWays(x, 5, 6, 12);
        bothWays(x, 6, 2, 14);
        bothWays(x, 4, 7, 16);
        bothWays(x, 8, 10, 0);
        bothWays(x, 8, 12, 0);
        bothWays(x, 10, 14, 0);
        bothWays(x, 14, 16, 0);
        bothWays(x, 12, 16, 0);
        Checks.due("nodes()", 9, x::nodes);
    }

    private static void whereNoRuleFits() {
        GateBench x = Checks.withInputs(3);
        bothWays(x, 2, 4, 8);
        bothWays(x, 3, 6, 10);
        bothWays(x, 4, 6, 12);
        bothWays(x, 8, 12, 14);
        bothWays(x, 9, 10, 16);
        bothWays(x, 8, 11, 18);
        bothWays(x, 9, 11, 20);
        bothWays(x, 8, 6, 22);
        bothWays(x, 2, 22, 24);
        Checks.due("nodes()", 13, x::nodes);
    }

    private static void sameGateOnce() {
        GateBench x = Checks.withInputs(40);
        for (int i = 2; i <= 40; i++) {
            bothWays(x, 2, 2 * i, 78 + 2 * i);
        }
        for (int i = 2; i <= 40; i++) {
            bothWays(x, 2 * i, 2, 78 + 2 * i);
        }
        Checks.due("and(3, 4)", 160, () -> x.and(3, 4));
        Checks.due("and(2, 5)", 162, () -> x.and(2, 5));
        Checks.due("and(3, 5)", 164, () -> x.and(3, 5));
        Checks.due("nodes()", 83, x::nodes);
    }

    private static void negatedGateOverGates() {
        GateBench x = Checks.withInputs(3);
        bothWays(x, 2, 4, 8);
        bothWays(x, 3, 6, 10);
        bothWays(x, 8, 11, 12);
        // AND of 8 and not the gate of 8 and 11 is AND of 8 and 10, which are against each other.
        bothWays(x, 13, 8, 0);
        bothWays(x, 13, 11, 14);
        Checks.due("node(7, 1)", 9, () -> x.node(7, 1));
        Checks.due("node(7, 2)", 11, () -> x.node(7, 2));
    }

    private static void wrongInputs() {
        GateBench x = Checks.withInputs(2);
        int[] none = {-1, -2, 6, 7, 400, Integer.MAX_VALUE, Integer.MIN_VALUE};
        for (int literal : none) {
            Checks.illegalArgument("and(" + literal + ", 0)", () -> x.and(literal, 0));
            Checks.illegalArgument("and(0, " + literal + ")", () -> x.and(0, literal));
            Checks.illegalArgument("and(" + literal + ", same)", () -> x.and(literal, literal));
        }
        Checks.due("nodes()", 3, x::nodes);
    }
}
