/** An object's 512 calls at their widest: ADD makes six gates a call, each over the one before. */
public final class LongRunTest {
    private static final int ADDS = 500;

    public static void main(String[] args) {
        Checks.sentence("an object is used for at most 512 calls");
        GateBench x = Checks.withInputs(3);
        int sum = 2;
        for (int i = 0; i < ADDS; i++) {
            int before = sum;
            int want = 2 * (4 + 6 * i + 5) + 1;
            Checks.due("ADD number " + i, want, () -> x.three(1, before, 4, 6));
            sum = want;
        }
        int top = sum;
        Checks.due("nodes()", 4 + 6 * ADDS, x::nodes);
        Checks.due("depth of the last one", 4 * ADDS, () -> x.depth(top));
        Checks.due("cone of the last one", 6 * ADDS, () -> x.cone(top));
        Checks.due("value of the last one", false, () -> x.value(top));
        Checks.due("set(1, true)", false, () -> x.set(1, true));
        Checks.due("value of the last one with 2 set", true, () -> x.value(top));
        Checks.due("below(3, ..)", true, () -> x.below(3, top));
        Checks.due("value of what it is not", false, () -> x.value(top - 1));
        Checks.due("inputs()", 3, x::inputs);
        Checks.end();
    }
}
