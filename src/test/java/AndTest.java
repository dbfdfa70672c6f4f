/** Promise 3: and, rule by rule in the document's order, each also with a and b exchanged. */
public final class AndTest {
    public static void main(String[] args) {
        aIsFalse();
        aIsTrue();
        aIsB();
        aIsNotB();
        gateAndItsLiteral();
        gateAndWhatItsLiteralIsNot();
        negatedGateAndWhatItsLiteralIsNot();
        negatedGateAndItsFirstLiteral();
        negatedGateAndItsSecondLiteral();
        whatIsLeftIsAndedByTheRules();
        gatesAgainstEachOther();
        negatedGatesAreNotAgainstEachOther();
        sharedLiteralIsNoRule();
        rulesLookOneGateDeep();
        lesserOneIsFirst();
        thatWhichThereIs();
        manyGatesOverOneNode();
        Checks.end();
    }

    private static void bothWays(GateBench x, int a, int b, int want) {
        Checks.due("and(" + a + ", " + b + ")", want, () -> x.and(a, b));
        Checks.due("and(" + b + ", " + a + ")", want, () -> x.and(b, a));
    }

    private static void noneMade(GateBench x, int nodes) {
        Checks.due("nodes(), no gate being made", nodes, x::nodes);
    }

    /** Inputs 2, 4, 6, gates 8 of 2 and 4, 10 of 3 and 6, 12 of 9 and 11. */
    private static GateBench sample() {
        GateBench x = Checks.withInputs(3);
        x.and(2, 4);
        x.and(3, 6);
        x.and(9, 11);
        return x;
    }

    private static void aIsFalse() {
        Checks.sentence("a is 0: 0");
        GateBench x = sample();
        for (int b = 0; b < 14; b++) {
            bothWays(x, 0, b, 0);
        }
        noneMade(x, 7);
    }

    private static void aIsTrue() {
        Checks.sentence("a is 1: b");
        GateBench x = sample();
        for (int b = 0; b < 14; b++) {
            bothWays(x, 1, b, b);
        }
        noneMade(x, 7);
    }

    private static void aIsB() {
        Checks.sentence("a is b: a");
        GateBench x = sample();
        for (int a = 0; a < 14; a++) {
            bothWays(x, a, a, a);
        }
        noneMade(x, 7);
    }

    private static void aIsNotB() {
        Checks.sentence("a is not b: 0");
        GateBench x = sample();
        for (int a = 0; a < 14; a += 2) {
            bothWays(x, a, a + 1, 0);
        }
        noneMade(x, 7);
    }

    private static void gateAndItsLiteral() {
        Checks.sentence("a is a gate of x and y (not negated), and b is x or y: a");
        GateBench x = sample();
        bothWays(x, 8, 2, 8);
        bothWays(x, 8, 4, 8);
        bothWays(x, 10, 3, 10);
        bothWays(x, 10, 6, 10);
        bothWays(x, 12, 9, 12);
        bothWays(x, 12, 11, 12);
        noneMade(x, 7);
        GateBench y = Checks.withInputs(3);
        bothWays(y, 2, 4, 8);
        bothWays(y, 8, 6, 10);
        bothWays(y, 10, 8, 10);
        noneMade(y, 6);
    }

    private static void gateAndWhatItsLiteralIsNot() {
        Checks.sentence("a is a gate of x and y (not negated), and b is not x, or not y: 0");
        GateBench x = sample();
        bothWays(x, 8, 3, 0);
        bothWays(x, 8, 5, 0);
        bothWays(x, 10, 2, 0);
        bothWays(x, 10, 7, 0);
        bothWays(x, 12, 8, 0);
        bothWays(x, 12, 10, 0);
        noneMade(x, 7);
    }

    private static void negatedGateAndWhatItsLiteralIsNot() {
        Checks.sentence("a is what a gate of x and y is not, and b is not x, or not y: b");
        GateBench x = sample();
        bothWays(x, 9, 3, 3);
        bothWays(x, 9, 5, 5);
        bothWays(x, 11, 2, 2);
        bothWays(x, 11, 7, 7);
        bothWays(x, 13, 8, 8);
        bothWays(x, 13, 10, 10);
        noneMade(x, 7);
    }

    private static void negatedGateAndItsFirstLiteral() {
        Checks.sentence("a is what a gate of x and y is not, and b is x: AND of x and not y");
        GateBench x = sample();
        bothWays(x, 9, 2, 14);
        Checks.gate(x, 7, 2, 5);
        bothWays(x, 11, 3, 16);
        Checks.gate(x, 8, 3, 7);
        // AND of 9 and 10, which no rule tells.
        bothWays(x, 13, 9, 18);
        Checks.gate(x, 9, 9, 10);
        noneMade(x, 10);
    }

    private static void negatedGateAndItsSecondLiteral() {
        Checks.sentence("a is what a gate of x and y is not, and b is y: AND of y and not x");
        GateBench x = sample();
        bothWays(x, 9, 4, 14);
        Checks.gate(x, 7, 3, 4);
        bothWays(x, 11, 6, 16);
        Checks.gate(x, 8, 2, 6);
        bothWays(x, 13, 11, 18);
        Checks.gate(x, 9, 8, 11);
        noneMade(x, 10);
    }

    private static void whatIsLeftIsAndedByTheRules() {
        Checks.sentence("AND of x and not y, AND of y and not x: by the rules again, that which there is, or a new one");
        GateBench x = Checks.withInputs(3);
        bothWays(x, 2, 4, 8);
        bothWays(x, 3, 6, 10);
        bothWays(x, 8, 11, 12);
        // AND of 8 and not 11, which are gates against each other.
        bothWays(x, 13, 8, 0);
        noneMade(x, 7);
        bothWays(x, 9, 11, 14);
        bothWays(x, 13, 11, 14);
        noneMade(x, 8);
        GateBench y = Checks.withInputs(3);
        bothWays(y, 3, 6, 8);
        bothWays(y, 2, 4, 10);
        bothWays(y, 9, 10, 12);
        // AND of 10 and not 9: the same, told by the second literal.
        bothWays(y, 13, 10, 0);
        bothWays(y, 3, 5, 14);
        bothWays(y, 2, 5, 16);
        bothWays(y, 11, 2, 16);
        noneMade(y, 9);
    }

    private static void gatesAgainstEachOther() {
        Checks.sentence("a and b are gates (neither negated), and a literal of the one is not one of the other: 0");
        GateBench x = Checks.withInputs(4);
        // 6 or 7 stands first where 8 or 9 is the other literal, second where 2 or 4 is.
        bothWays(x, 2, 6, 10);
        bothWays(x, 4, 7, 12);
        bothWays(x, 6, 8, 14);
        bothWays(x, 7, 8, 16);
        bothWays(x, 10, 12, 0);
        bothWays(x, 14, 16, 0);
        bothWays(x, 10, 16, 0);
        bothWays(x, 12, 14, 0);
        noneMade(x, 9);
        GateBench y = Checks.withInputs(3);
        bothWays(y, 2, 4, 8);
        bothWays(y, 9, 6, 10);
        bothWays(y, 8, 6, 12);
        // The literal that they have against each other is a gate's.
        bothWays(y, 10, 12, 0);
        // Both literals are against each other's.
        bothWays(y, 3, 5, 14);
        bothWays(y, 8, 14, 0);
        noneMade(y, 8);
    }

    private static void negatedGatesAreNotAgainstEachOther() {
        Checks.sentence("neither of them negated: otherwise it is the gate of a and b");
        GateBench x = Checks.withInputs(3);
        bothWays(x, 2, 4, 8);
        bothWays(x, 3, 6, 10);
        bothWays(x, 9, 10, 12);
        bothWays(x, 8, 11, 14);
        bothWays(x, 9, 11, 16);
        noneMade(x, 9);
    }

    private static void sharedLiteralIsNoRule() {
        Checks.sentence("gates with the same literal in both, and an input beside a gate: the gate of a and b");
        GateBench x = Checks.withInputs(3);
        bothWays(x, 2, 4, 8);
        bothWays(x, 4, 6, 10);
        bothWays(x, 8, 10, 12);
        bothWays(x, 9, 10, 14);
        bothWays(x, 8, 6, 16);
        bothWays(x, 9, 6, 18);
        bothWays(x, 8, 7, 20);
        noneMade(x, 11);
    }

    private static void rulesLookOneGateDeep() {
        Checks.sentence("a rule looks at a gate's own literals alone");
        GateBench x = Checks.withInputs(3);
        bothWays(x, 2, 4, 8);
        bothWays(x, 8, 6, 10);
        bothWays(x, 10, 2, 12);
        bothWays(x, 10, 3, 14);
        bothWays(x, 11, 2, 16);
        bothWays(x, 11, 3, 18);
        noneMade(x, 10);
    }

    private static void lesserOneIsFirst() {
        Checks.sentence("the gate of a and b (the lesser one is its first literal)");
        GateBench x = Checks.withInputs(4);
        Checks.due("and(4, 2)", 10, () -> x.and(4, 2));
        Checks.gate(x, 5, 2, 4);
        Checks.due("and(3, 5)", 12, () -> x.and(3, 5));
        Checks.gate(x, 6, 3, 5);
        Checks.due("and(8, 7)", 14, () -> x.and(8, 7));
        Checks.gate(x, 7, 7, 8);
        Checks.due("and(11, 9)", 16, () -> x.and(11, 9));
        Checks.gate(x, 8, 9, 11);
        Checks.due("and(8, 11)", 18, () -> x.and(8, 11));
        Checks.gate(x, 9, 8, 11);
    }

    private static void thatWhichThereIs() {
        Checks.sentence("the gate of a and b, that which there is, or a new one");
        GateBench x = Checks.withInputs(2);
        bothWays(x, 2, 4, 6);
        bothWays(x, 2, 5, 8);
        bothWays(x, 3, 4, 10);
        bothWays(x, 3, 5, 12);
        noneMade(x, 7);
        bothWays(x, 2, 4, 6);
        bothWays(x, 2, 5, 8);
        bothWays(x, 3, 4, 10);
        bothWays(x, 3, 5, 12);
        noneMade(x, 7);
    }

    private static void manyGatesOverOneNode() {
        Checks.sentence("the same gate is never made twice");
        GateBench x = Checks.withInputs(40);
        for (int i = 2; i <= 40; i++) {
            bothWays(x, 2, 2 * i, 78 + 2 * i);
        }
        for (int i = 2; i <= 39; i++) {
            bothWays(x, 2 * i, 80, 156 + 2 * i);
        }
        for (int i = 2; i <= 40; i++) {
            bothWays(x, 2 * i, 2, 78 + 2 * i);
        }
        for (int i = 39; i >= 2; i--) {
            bothWays(x, 80, 2 * i, 156 + 2 * i);
        }
        noneMade(x, 118);
    }
}
