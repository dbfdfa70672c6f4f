/** Promises 6 and 7: set and value. */
public final class ValuesTest {
    public static void main(String[] args) {
        setTellsWhetherItWasSo();
        setIsToldByTheNode();
        setOfTheLastNode();
        setOfNoInput();
        valuesFollow();
        settingIsSeenAtTheNextNode();
        valueOfEachLiteral();
        gateMadeAfterSetting();
        longChain();
        Checks.end();
    }

    private static void setTellsWhetherItWasSo() {
        Checks.sentence("promise 6: whether it was so before");
        GateBench x = Checks.withInputs(2);
        Checks.due("set(1, false) of a new input", true, () -> x.set(1, false));
        Checks.due("set(1, true)", false, () -> x.set(1, true));
        Checks.due("set(1, true) again", true, () -> x.set(1, true));
        Checks.due("set(2, false)", true, () -> x.set(2, false));
        Checks.due("set(1, false)", false, () -> x.set(1, false));
        Checks.due("set(1, false) again", true, () -> x.set(1, false));
        Checks.due("value(2)", false, () -> x.value(2));
        Checks.due("set(2, true)", false, () -> x.set(2, true));
        Checks.due("set(2, true) again", true, () -> x.set(2, true));
        Checks.due("value(4) set twice", true, () -> x.value(4));
    }

    private static void setIsToldByTheNode() {
        Checks.sentence("promise 6: sets an input, told by its node");
        GateBench x = Checks.withInputs(4);
        x.set(2, true);
        for (int literal = 0; literal < 10; literal++) {
            int asked = literal;
            Checks.due("value(" + asked + ") with node 2 set", (asked == 4) != (asked % 2 == 1 && asked != 5),
                () -> x.value(asked));
        }
    }

    private static void setOfTheLastNode() {
        Checks.sentence("promise 6: an input, the last node too");
        GateBench x = new GateBench();
        for (int node = 1; node <= 70; node++) {
            int last = node;
            Checks.illegalArgument("set(" + last + ", true) before it is made", () -> x.set(last, true));
            x.input();
            Checks.due("set(" + last + ", true)", false, () -> x.set(last, true));
            Checks.due("value of it", true, () -> x.value(2 * last));
        }
    }

    private static void setOfNoInput() {
        Checks.sentence("promise 6: illegal argument also if the node is no input");
        GateBench x = Checks.withInputs(2);
        x.and(2, 4);
        int[] noInput = {-1, 0, 3, 4, 5, Integer.MAX_VALUE, Integer.MIN_VALUE};
        for (int node : noInput) {
            Checks.illegalArgument("set(" + node + ", true)", () -> x.set(node, true));
            Checks.illegalArgument("set(" + node + ", false)", () -> x.set(node, false));
        }
        for (int literal = 0; literal < 8; literal++) {
            int asked = literal;
            Checks.due("value(" + asked + ") after what was refused", asked % 2 == 1, () -> x.value(asked));
        }
    }

    private static void valuesFollow() {
        Checks.sentence("promise 7: the value of a literal, for any setting");
        GateBench x = Checks.withInputs(3);
        x.and(2, 4);
        x.and(6, 9);
        for (int setting = 0; setting < 16; setting++) {
            // Backwards and forwards, so that an early input changes behind a late one too.
            int bits = setting < 8 ? setting : 15 - setting;
            boolean a = (bits & 4) != 0;
            boolean b = (bits & 2) != 0;
            boolean c = (bits & 1) != 0;
            x.set(1, a);
            x.set(2, b);
            x.set(3, c);
            Checks.due("value(11) of " + bits, !(c & !(a & b)), () -> x.value(11));
            Checks.due("value(8) of " + bits, a & b, () -> x.value(8));
            Checks.due("value(10) of " + bits, c & !(a & b), () -> x.value(10));
            Checks.due("value(3) of " + bits, !a, () -> x.value(3));
        }
        Checks.due("value(0)", false, () -> x.value(0));
        Checks.due("value(1)", true, () -> x.value(1));
    }

    private static void settingIsSeenAtTheNextNode() {
        Checks.sentence("promise 7: the value of a gate made right behind the input that is set");
        GateBench x = Checks.withInputs(2);
        x.and(2, 4);
        x.set(1, true);
        Checks.due("value(6) before", false, () -> x.value(6));
        x.set(2, true);
        Checks.due("value(6) behind set(2, true)", true, () -> x.value(6));
        x.set(2, false);
        Checks.due("value(6) behind set(2, false)", false, () -> x.value(6));
    }

    private static void valueOfEachLiteral() {
        Checks.sentence("promise 7: illegal argument");
        GateBench x = Checks.withInputs(2);
        x.and(2, 4);
        Checks.due("value(6), the last node's", false, () -> x.value(6));
        Checks.due("value(7), the last literal", true, () -> x.value(7));
        int[] none = {-1, -2, 8, 9, 31, 32, Integer.MAX_VALUE, Integer.MIN_VALUE};
        for (int literal : none) {
            Checks.illegalArgument("value(" + literal + ")", () -> x.value(literal));
        }
    }

    private static void gateMadeAfterSetting() {
        Checks.sentence("promise 7: the value of what is made after the setting");
        GateBench x = Checks.withInputs(2);
        x.set(1, true);
        x.set(2, true);
        Checks.due("value(4)", true, () -> x.value(4));
        int gate = x.and(2, 4);
        Checks.due("value of a gate made later", true, () -> x.value(gate));
        int late = x.input();
        Checks.due("value of an input made later", false, () -> x.value(late));
        Checks.due("set of an input made later", false, () -> x.set(late >> 1, true));
        Checks.due("value of it", true, () -> x.value(late));
        Checks.due("value of the gate still", true, () -> x.value(gate));
        int top = x.and(gate, late);
        x.set(1, false);
        Checks.due("value of the last gate, asked for first", false, () -> x.value(top));
        x.set(1, true);
        Checks.due("value of the former gate, asked for first", true, () -> x.value(gate));
        Checks.due("value of the last gate then", true, () -> x.value(top));
    }

    private static void longChain() {
        Checks.sentence("promise 7: the value over many gates");
        GateBench x = Checks.withInputs(100);
        int all = 2;
        for (int i = 2; i <= 100; i++) {
            all = x.and(all, 2 * i);
        }
        int top = all;
        for (int i = 1; i <= 100; i++) {
            x.set(i, true);
        }
        Checks.due("value of a chain", true, () -> x.value(top));
        x.set(1, false);
        Checks.due("value of a chain without its first", false, () -> x.value(top));
        x.set(1, true);
        x.set(100, false);
        Checks.due("value of a chain without its last", false, () -> x.value(top));
        Checks.due("value of what that is not", true, () -> x.value(top + 1));
    }
}
