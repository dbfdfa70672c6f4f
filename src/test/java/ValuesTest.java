/** Promises 6 and 7: set and value. */
public final class ValuesTest {
    public static void main(String[] args) {
        setTellsWhetherItWasSo();
        valuesFollow();
        gateMadeAfterSetting();
        longChain();
        wrongInputs();
        Checks.end();
    }

    private static void setTellsWhetherItWasSo() {
        GateBench x = Checks.withInputs(2);
        Checks.due("set(1, false) of a new input", true, () -> x.set(1, false));
        Checks.due("set(1, true)", false, () -> x.set(1, true));
        Checks.due("set(1, true) again", true, () -> x.set(1, true));
        Checks.due("set(2, false)", true, () -> x.set(2, false));
        Checks.due("set(1, false)", false, () -> x.set(1, false));
        Checks.due("set(1, false) again", true, () -> x.set(1, false));
    }

    private static void valuesFollow() {
        GateBench x = Checks.withInputs(3);
        x.and(2, 4);
        x.and(6, 9);
        for (int setting = 0; setting < 16; setting++) {
            // Backwards and forwards, so that an early input changes behind a late one too.
            int bits = setting < 8 ? setting : 15 - setting;
            boolean a = (bits & 4) != 0;
            boolean b = (bits & 2) != 0;
            boolean c = (bits & 1) != 0;
            x.set(1, a);
            x.set(2, b);
            x.set(3, c);
            Checks.due("value(11) of " + bits, !(c & !(a & b)), () -> x.value(11));
            Checks.due("value(8) of " + bits, a & b, () -> x.value(8));
            Checks.due("value(10) of " + bits, c & !(a & b), () -> x.value(10));
            Checks.due("value(3) of " + bits, !a, () -> x.value(3));
        }
        Checks.due("value(0)", false, () -> x.value(0));
        Checks.due("value(1)", true, () -> x.value(1));
    }

    private static void gateMadeAfterSetting() {
        GateBench x = Checks.withInputs(2);
        x.set(1, true);
        x.set(2, true);
        Checks.due("value(4)", true, () -> x.value(4));
        int gate = x.and(2, 4);
        Checks.due("value of a gate made later", true, () -> x.value(gate));
        int late = x.input();
        Checks.due("value of an input made later", false, () -> x.value(late));
        Checks.due("set of an input made later", false, () -> x.set(late >> 1, true));
        Checks.due("value of it", true, () -> x.value(late));
        Checks.due("value of the gate still", true, () -> x.value(gate));
    }

    private static void longChain() {
        GateBench x = Checks.withInputs(100);
        int all = 2;
        for (int i = 2; i <= 100; i++) {
            all = x.and(all, 2 * i);
        }
        int top = all;
        for (int i = 1; i <= 100; i++) {
            x.set(i, true);
        }
        Checks.due("value of a chain", true, () -> x.value(top));
        x.set(1, false);
        Checks.due("value of a chain without its first", false, () -> x.value(top));
        x.set(1, true);
        x.set(100, false);
        Checks.due("value of a chain without its last", false, () -> x.value(top));
        Checks.due("value of what that is not", true, () -> x.value(top + 1));
    }

    private static void wrongInputs() {
        GateBench x = Checks.withInputs(2);
        x.and(2, 4);
        int[] noInput = {-1, 0, 3, 4, Integer.MAX_VALUE, Integer.MIN_VALUE};
        for (int node : noInput) {
            Checks.illegalArgument("set(" + node + ", true)", () -> x.set(node, true));
            Checks.illegalArgument("set(" + node + ", false)", () -> x.set(node, false));
        }
        int[] none = {-1, 8, 9, Integer.MAX_VALUE, Integer.MIN_VALUE};
        for (int literal : none) {
            Checks.illegalArgument("value(" + literal + ")", () -> x.value(literal));
        }
        for (int i = 0; i < 8; i++) {
            int literal = i;
            Checks.due("value(" + literal + ") after what was refused", literal % 2 == 1, () -> x.value(literal));
        }
    }
}
