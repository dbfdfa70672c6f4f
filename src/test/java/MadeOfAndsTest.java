/** Promises 4 and 5: join and three, with the order in which their gates are made. */
public final class MadeOfAndsTest {
    public static void main(String[] args) {
        or();
        xor();
        choice();
        add();
        carry();
        wrongInputs();
        truths();
        Checks.end();
    }

    private static void gate(GateBench x, int node, int first, int second) {
        Checks.due("node(" + node + ", 1)", first, () -> x.node(node, 1));
        Checks.due("node(" + node + ", 2)", second, () -> x.node(node, 2));
    }

    private static void or() {
        GateBench x = Checks.withInputs(2);
        Checks.due("join(0, 2, 4)", 7, () -> x.join(0, 2, 4));
        gate(x, 3, 3, 5);
        Checks.due("join(0, 4, 2)", 7, () -> x.join(0, 4, 2));
        Checks.due("join(0, 2, 0)", 2, () -> x.join(0, 2, 0));
        Checks.due("join(0, 2, 1)", 1, () -> x.join(0, 2, 1));
        Checks.due("join(0, 2, 3)", 1, () -> x.join(0, 2, 3));
        Checks.due("join(0, 7, 2)", 7, () -> x.join(0, 7, 2));
        Checks.due("nodes()", 4, x::nodes);
    }

    private static void xor() {
        GateBench x = Checks.withInputs(2);
        Checks.due("join(1, 2, 4)", 11, () -> x.join(1, 2, 4));
        gate(x, 3, 2, 5);
        gate(x, 4, 3, 4);
        gate(x, 5, 7, 9);
        Checks.due("join(1, 4, 2)", 11, () -> x.join(1, 4, 2));
        Checks.due("nodes()", 6, x::nodes);
        Checks.due("join(1, 2, 2)", 0, () -> x.join(1, 2, 2));
        Checks.due("join(1, 2, 3)", 1, () -> x.join(1, 2, 3));
        Checks.due("join(1, 1, 4)", 5, () -> x.join(1, 1, 4));
        Checks.due("join(1, 4, 0)", 4, () -> x.join(1, 4, 0));
        GateBench y = Checks.withInputs(2);
        Checks.due("join(1, 4, 2) first", 11, () -> y.join(1, 4, 2));
        gate(y, 3, 3, 4);
        gate(y, 4, 2, 5);
    }

    private static void choice() {
        GateBench x = Checks.withInputs(3);
        Checks.due("three(0, 2, 4, 6)", 13, () -> x.three(0, 2, 4, 6));
        gate(x, 4, 2, 4);
        gate(x, 5, 3, 6);
        gate(x, 6, 9, 11);
        Checks.due("three(0, 1, 4, 6)", 4, () -> x.three(0, 1, 4, 6));
        Checks.due("three(0, 0, 4, 6)", 6, () -> x.three(0, 0, 4, 6));
        Checks.due("three(0, 2, 1, 0)", 2, () -> x.three(0, 2, 1, 0));
        Checks.due("three(0, 2, 0, 1)", 3, () -> x.three(0, 2, 0, 1));
        Checks.due("nodes()", 7, x::nodes);
    }

    private static void add() {
        GateBench x = Checks.withInputs(3);
        Checks.due("three(1, 2, 4, 6)", 19, () -> x.three(1, 2, 4, 6));
        gate(x, 4, 2, 5);
        gate(x, 5, 3, 4);
        gate(x, 6, 9, 11);
        gate(x, 7, 7, 13);
        gate(x, 8, 6, 12);
        gate(x, 9, 15, 17);
        Checks.due("three(1, 2, 4, 0)", 13, () -> x.three(1, 2, 4, 0));
        Checks.due("three(1, 2, 4, 1)", 12, () -> x.three(1, 2, 4, 1));
        Checks.due("three(1, 1, 1, 1)", 1, () -> x.three(1, 1, 1, 1));
        Checks.due("nodes()", 10, x::nodes);
    }

    private static void carry() {
        GateBench x = Checks.withInputs(3);
        Checks.due("three(2, 2, 4, 6)", 19, () -> x.three(2, 2, 4, 6));
        gate(x, 4, 2, 4);
        gate(x, 5, 2, 5);
        gate(x, 6, 3, 4);
        gate(x, 7, 11, 13);
        gate(x, 8, 6, 15);
        gate(x, 9, 9, 17);
        Checks.due("three(2, 2, 4, 0)", 8, () -> x.three(2, 2, 4, 0));
        Checks.due("nodes()", 10, x::nodes);
    }

    private static void wrongInputs() {
        GateBench x = Checks.withInputs(2);
        int[] noKind = {-1, 3, Integer.MAX_VALUE, Integer.MIN_VALUE};
        for (int kind : noKind) {
            Checks.illegalArgument("join(" + kind + ", 2, 4)", () -> x.join(kind, 2, 4));
            Checks.illegalArgument("three(" + kind + ", 2, 4, 0)", () -> x.three(kind, 2, 4, 0));
        }
        Checks.illegalArgument("join(2, 2, 4)", () -> x.join(2, 2, 4));
        int[] none = {-1, 6, Integer.MAX_VALUE, Integer.MIN_VALUE};
        for (int literal : none) {
            noLiteral(x, literal);
        }
        Checks.due("nodes() after what was refused", 3, x::nodes);
    }

    private static void noLiteral(GateBench x, int literal) {
        for (int k = 0; k <= 1; k++) {
            int kind = k;
            Checks.illegalArgument("join(kind, none, 2)", () -> x.join(kind, literal, 2));
            Checks.illegalArgument("join(kind, 2, none)", () -> x.join(kind, 2, literal));
        }
        for (int k = 0; k <= 2; k++) {
            int kind = k;
            Checks.illegalArgument("three(kind, none, 2, 4)", () -> x.three(kind, literal, 2, 4));
            Checks.illegalArgument("three(kind, 2, none, 4)", () -> x.three(kind, 2, literal, 4));
            Checks.illegalArgument("three(kind, 2, 4, none)", () -> x.three(kind, 2, 4, literal));
        }
    }

    private static void truths() {
        GateBench x = Checks.withInputs(3);
        int or = x.join(0, 2, 4);
        int xor = x.join(1, 2, 4);
        int choice = x.three(0, 2, 4, 6);
        int add = x.three(1, 2, 4, 6);
        int carry = x.three(2, 2, 4, 6);
        for (int setting = 0; setting < 8; setting++) {
            boolean a = (setting & 1) != 0;
            boolean b = (setting & 2) != 0;
            boolean c = (setting & 4) != 0;
            x.set(1, a);
            x.set(2, b);
            x.set(3, c);
            Checks.due("OR of " + setting, a | b, () -> x.value(or));
            Checks.due("XOR of " + setting, a ^ b, () -> x.value(xor));
            Checks.due("IF of " + setting, a ? b : c, () -> x.value(choice));
            Checks.due("ADD of " + setting, a ^ b ^ c, () -> x.value(add));
            Checks.due("CARRY of " + setting, Integer.bitCount(setting) >= 2, () -> x.value(carry));
        }
    }
}
