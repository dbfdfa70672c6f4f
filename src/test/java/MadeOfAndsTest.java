/** Promises 4 and 5: join and three, with the order in which their gates are made. */
public final class MadeOfAndsTest {
    public static void main(String[] args) {
        gatesInTheirOrder();
        gatesOfTheThirdLiteral();
        or();
        xor();
        xorTheOtherWayRound();
        choice();
        choiceTakesTheFirstAsCondition();
        add();
        addTakesTheFirstTwoFirst();
        carry();
        whatThereIsIsNotMadeAgain();
        kinds();
        truths();
        Checks.end();
    }

    private static void gatesInTheirOrder() {
        Checks.sentence("others are made so: the former made first");
        for (Recipe recipe : Recipe.ALL) {
            GateBench x = Checks.withInputs(3);
            Checks.due(recipe.call, recipe.answer(4), () -> recipe.making.on(x));
            Checks.due("nodes() after " + recipe.call, 4 + recipe.gateCount, x::nodes);
            recipe.checkGates(x, 4, recipe.gateCount);
            Checks.due(recipe.call + " again", recipe.answer(4), () -> recipe.making.on(x));
            Checks.due("nodes() after " + recipe.call + " again", 4 + recipe.gateCount, x::nodes);
        }
    }

    private static void gatesOfTheThirdLiteral() {
        Checks.sentence("CARRY: the XOR before the AND that has it");
        GateBench x = Checks.withInputs(3);
        Checks.due("three(2, 6, 5, 3)", 19, () -> x.three(2, 6, 5, 3));
        Checks.gate(x, 4, 5, 6);
        Checks.gate(x, 5, 4, 6);
        Checks.gate(x, 6, 5, 7);
        Checks.gate(x, 7, 11, 13);
        Checks.gate(x, 8, 3, 15);
        Checks.gate(x, 9, 9, 17);
    }

    private static void or() {
        Checks.sentence("OR of a, b is not AND of not a, not b");
        GateBench x = Checks.withInputs(2);
        Checks.due("join(0, 2, 4)", 7, () -> x.join(0, 2, 4));
        Checks.gate(x, 3, 3, 5);
        Checks.due("join(0, 4, 2)", 7, () -> x.join(0, 4, 2));
        Checks.due("join(0, 2, 0)", 2, () -> x.join(0, 2, 0));
        Checks.due("join(0, 0, 0)", 0, () -> x.join(0, 0, 0));
        Checks.due("join(0, 2, 1)", 1, () -> x.join(0, 2, 1));
        Checks.due("join(0, 2, 2)", 2, () -> x.join(0, 2, 2));
        Checks.due("join(0, 2, 3)", 1, () -> x.join(0, 2, 3));
        Checks.due("join(0, 7, 2)", 7, () -> x.join(0, 7, 2));
        Checks.due("join(0, 3, 7)", 1, () -> x.join(0, 3, 7));
        Checks.due("join(0, 6, 3)", 3, () -> x.join(0, 6, 3));
        Checks.due("nodes()", 4, x::nodes);
        Checks.due("join(0, 3, 5)", 9, () -> x.join(0, 3, 5));
        Checks.gate(x, 4, 2, 4);
    }

    private static void xor() {
        Checks.sentence("XOR of a, b is OR of AND of a, not b, and AND of not a, b");
        GateBench x = Checks.withInputs(2);
        Checks.due("join(1, 2, 4)", 11, () -> x.join(1, 2, 4));
        Checks.due("join(1, 4, 2)", 11, () -> x.join(1, 4, 2));
        Checks.due("join(1, 3, 5)", 11, () -> x.join(1, 3, 5));
        Checks.due("nodes()", 6, x::nodes);
        Checks.due("join(1, 2, 2)", 0, () -> x.join(1, 2, 2));
        Checks.due("join(1, 2, 3)", 1, () -> x.join(1, 2, 3));
        Checks.due("join(1, 0, 0)", 0, () -> x.join(1, 0, 0));
        Checks.due("join(1, 1, 4)", 5, () -> x.join(1, 1, 4));
        Checks.due("join(1, 4, 0)", 4, () -> x.join(1, 4, 0));
        Checks.due("nodes(), none being made", 6, x::nodes);
    }

    private static void xorTheOtherWayRound() {
        Checks.sentence("XOR of a, b: AND of a, not b is made first");
        GateBench x = Checks.withInputs(2);
        Checks.due("join(1, 4, 2)", 11, () -> x.join(1, 4, 2));
        Checks.gate(x, 3, 3, 4);
        Checks.gate(x, 4, 2, 5);
        Checks.gate(x, 5, 7, 9);
        GateBench y = Checks.withInputs(2);
        // Negated, AND of a, not b is that of 2 and 4: XOR of 2, 5 has gates of its own.
        Checks.due("join(1, 2, 5)", 11, () -> y.join(1, 2, 5));
        Checks.gate(y, 3, 2, 4);
        Checks.gate(y, 4, 3, 5);
        Checks.gate(y, 5, 7, 9);
    }

    private static void choice() {
        Checks.sentence("IF of c, a, b is OR of AND of c, a, and AND of not c, b");
        GateBench x = Checks.withInputs(3);
        Checks.due("three(0, 1, 4, 6)", 4, () -> x.three(0, 1, 4, 6));
        Checks.due("three(0, 0, 4, 6)", 6, () -> x.three(0, 0, 4, 6));
        Checks.due("three(0, 2, 1, 0)", 2, () -> x.three(0, 2, 1, 0));
        Checks.due("three(0, 2, 0, 1)", 3, () -> x.three(0, 2, 0, 1));
        Checks.due("three(0, 0, 0, 0)", 0, () -> x.three(0, 0, 0, 0));
        Checks.due("nodes(), none being made", 4, x::nodes);
    }

    private static void choiceTakesTheFirstAsCondition() {
        Checks.sentence("IF of c, a, b: AND of c, a is made first");
        GateBench x = Checks.withInputs(3);
        Checks.due("three(0, 6, 2, 4)", 13, () -> x.three(0, 6, 2, 4));
        Checks.gate(x, 4, 2, 6);
        Checks.gate(x, 5, 4, 7);
        Checks.gate(x, 6, 9, 11);
        GateBench y = Checks.withInputs(2);
        // With the same literal for both, its two gates are still made.
        Checks.due("three(0, 2, 4, 4)", 11, () -> y.three(0, 2, 4, 4));
        Checks.gate(y, 3, 2, 4);
        Checks.gate(y, 4, 3, 4);
        Checks.gate(y, 5, 7, 9);
    }

    private static void add() {
        Checks.sentence("ADD of a, b, c is XOR of XOR of a, b, and c");
        GateBench x = Checks.withInputs(3);
        Checks.due("three(1, 2, 4, 0)", 13, () -> x.three(1, 2, 4, 0));
        Checks.due("three(1, 2, 4, 1)", 12, () -> x.three(1, 2, 4, 1));
        Checks.due("three(1, 2, 2, 6)", 6, () -> x.three(1, 2, 2, 6));
        Checks.due("three(1, 0, 0, 0)", 0, () -> x.three(1, 0, 0, 0));
        Checks.due("three(1, 1, 1, 1)", 1, () -> x.three(1, 1, 1, 1));
        Checks.due("nodes()", 7, x::nodes);
    }

    private static void addTakesTheFirstTwoFirst() {
        Checks.sentence("ADD of a, b, c: XOR of a, b is made first");
        GateBench x = Checks.withInputs(3);
        Checks.due("three(1, 6, 4, 2)", 19, () -> x.three(1, 6, 4, 2));
        Checks.gate(x, 4, 5, 6);
        Checks.gate(x, 5, 4, 7);
        Checks.gate(x, 6, 9, 11);
        Checks.gate(x, 7, 3, 13);
        Checks.gate(x, 8, 2, 12);
        Checks.gate(x, 9, 15, 17);
    }

    private static void carry() {
        Checks.sentence("CARRY of a, b, c is OR of AND of a, b, and AND of c and XOR of a, b");
        GateBench x = Checks.withInputs(3);
        Checks.due("three(2, 2, 2, 6)", 2, () -> x.three(2, 2, 2, 6));
        Checks.due("three(2, 2, 3, 6)", 6, () -> x.three(2, 2, 3, 6));
        Checks.due("three(2, 1, 1, 6)", 1, () -> x.three(2, 1, 1, 6));
        Checks.due("three(2, 0, 0, 6)", 0, () -> x.three(2, 0, 0, 6));
        Checks.due("nodes(), none being made", 4, x::nodes);
        // The XOR is made even where its AND is false.
        Checks.due("three(2, 2, 4, 0)", 8, () -> x.three(2, 2, 4, 0));
        Checks.gate(x, 4, 2, 4);
        Checks.gate(x, 5, 2, 5);
        Checks.gate(x, 6, 3, 4);
        Checks.gate(x, 7, 11, 13);
        Checks.due("nodes()", 8, x::nodes);
    }

    private static void whatThereIsIsNotMadeAgain() {
        Checks.sentence("that which there is, or a new one");
        GateBench x = Checks.withInputs(3);
        x.and(4, 3);
        Checks.due("join(1, 2, 4) over a gate that there is", 13, () -> x.join(1, 2, 4));
        Checks.gate(x, 5, 2, 5);
        Checks.gate(x, 6, 9, 11);
        Checks.due("three(1, 2, 4, 6) over an XOR that there is", 19, () -> x.three(1, 2, 4, 6));
        Checks.gate(x, 7, 7, 13);
        Checks.due("three(2, 2, 4, 6) over both", 25, () -> x.three(2, 2, 4, 6));
        Checks.gate(x, 10, 2, 4);
        Checks.gate(x, 11, 6, 13);
        Checks.gate(x, 12, 21, 23);
        Checks.due("nodes()", 13, x::nodes);
    }

    private static void kinds() {
        Checks.sentence("promises 4 and 5: illegal argument also if kind is none of these");
        GateBench x = Checks.withInputs(3);
        int[] noKind = {-1, 3, 4, Integer.MAX_VALUE, Integer.MIN_VALUE};
        for (int kind : noKind) {
            Checks.illegalArgument("join(" + kind + ", 2, 4)", () -> x.join(kind, 2, 4));
            Checks.illegalArgument("three(" + kind + ", 2, 4, 6)", () -> x.three(kind, 2, 4, 6));
            // Even where the answer would be the same for each kind.
            Checks.illegalArgument("join(" + kind + ", 0, 0)", () -> x.join(kind, 0, 0));
            Checks.illegalArgument("three(" + kind + ", 0, 0, 0)", () -> x.three(kind, 0, 0, 0));
        }
        Checks.illegalArgument("join(2, 2, 4)", () -> x.join(2, 2, 4));
        Checks.illegalArgument("join(2, 0, 0)", () -> x.join(2, 0, 0));
        Checks.due("nodes() after what was refused", 4, x::nodes);
        Checks.due("join(1, 0, 0), the last kind", 0, () -> x.join(1, 0, 0));
        Checks.due("three(2, 0, 0, 0), the last kind", 0, () -> x.three(2, 0, 0, 0));
    }

    private static void truths() {
        Checks.sentence("promises 4 and 5: OR, XOR, IF, ADD, CARRY");
        GateBench x = Checks.withInputs(3);
        int or = x.join(0, 2, 4);
        int xor = x.join(1, 2, 4);
        int choice = x.three(0, 2, 4, 6);
        int add = x.three(1, 2, 4, 6);
        int carry = x.three(2, 2, 4, 6);
        for (int setting = 0; setting < 8; setting++) {
            boolean a = (setting & 1) != 0;
            boolean b = (setting & 2) != 0;
            boolean c = (setting & 4) != 0;
            x.set(1, a);
            x.set(2, b);
            x.set(3, c);
            Checks.due("OR of " + setting, a | b, () -> x.value(or));
            Checks.due("XOR of " + setting, a ^ b, () -> x.value(xor));
            Checks.due("IF of " + setting, a ? b : c, () -> x.value(choice));
            Checks.due("ADD of " + setting, a ^ b ^ c, () -> x.value(add));
            Checks.due("CARRY of " + setting, Integer.bitCount(setting) >= 2, () -> x.value(carry));
        }
    }
}
