/** The example of README.md, line by line: what stands there behind a call is what the call answers. */
public final class UsageTest {
    public static void main(String[] args) {
        Checks.sentence("README.md: how to use it");
        GateBench bench = new GateBench();
        int a = bench.input();
        int b = bench.input();
        int both = bench.and(a, b);
        int either = bench.join(0, a, b);
        int sum = bench.three(1, a, b, 1);
        Checks.due("a", 2, () -> a);
        Checks.due("b", 4, () -> b);
        Checks.due("both", 6, () -> both);
        Checks.due("bench.and(b, a)", 6, () -> bench.and(b, a));
        Checks.due("either", 9, () -> either);
        Checks.due("sum", 14, () -> sum);
        Checks.due("bench.set(a / 2, true)", false, () -> bench.set(a / 2, true));
        Checks.due("bench.value(either)", true, () -> bench.value(either));
        Checks.due("bench.value(sum)", false, () -> bench.value(sum));
        Checks.due("bench.node(both / 2, 1)", 2, () -> bench.node(both / 2, 1));
        Checks.due("bench.cone(sum)", 3, () -> bench.cone(sum));
        Checks.due("bench.below(a / 2, sum)", true, () -> bench.below(a / 2, sum));
        Checks.due("bench.depth(sum)", 2, () -> bench.depth(sum));
        Checks.due("bench.nodes()", 8, bench::nodes);
        Checks.due("bench.inputs()", 2, bench::inputs);
        Checks.end();
    }
}
