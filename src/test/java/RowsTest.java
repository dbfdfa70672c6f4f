import java.lang.reflect.Array;
import java.lang.reflect.Field;
import java.lang.reflect.Modifier;

/** Rows grow by doubling, and what stood in them stays. */
public final class RowsTest {
    private static final int FAR = 4200;

    public static void main(String[] args) throws IllegalAccessException {
        rowsDouble();
        whatStoodInThemStays();
        growthInsideACall();
        gatesAreFoundAcrossGrowth();
        Checks.end();
    }

    private static int longestRow(GateBench x) throws IllegalAccessException {
        int longest = 0;
        for (Field field : GateBench.class.getDeclaredFields()) {
            if (field.getType().isArray() && !Modifier.isStatic(field.getModifiers())) {
                field.setAccessible(true);
                longest = Math.max(longest, Array.getLength(field.get(x)));
            }
        }
        return longest;
    }

    /** The document tells no first length; a small one is what keeps many small objects in one room. */
    private static void rowsDouble() throws IllegalAccessException {
        Checks.sentence("rows grow by doubling");
        GateBench x = new GateBench();
        int room = longestRow(x);
        int first = room;
        Checks.due("a first row of some length, at most 64", true, () -> first >= 1 && first <= 64);
        for (int i = 0; i < FAR; i++) {
            boolean full = x.nodes() == room;
            x.input();
            int want = full ? 2 * room : room;
            int got = longestRow(x);
            Checks.due("the rows' length of " + x.nodes() + " nodes", want, () -> got);
            room = got;
        }
    }

    private static void whatStoodInThemStays() {
        Checks.sentence("rows grow by doubling: what stood in them stays");
        for (int nodes = 6; nodes <= 70; nodes++) {
            int stood = nodes;
            GateBench x = Checks.mixed(stood);
            String before = Checks.picture(x, stood);
            // Inputs are over nothing and under nothing, so nothing but the growth can change what stood before.
            while (x.nodes() < 2 * stood + 2) {
                x.input();
            }
            Checks.due("the picture of " + stood + " nodes, grown", before, () -> Checks.picture(x, stood));
        }
    }

    private static void growthInsideACall() {
        Checks.sentence("rows grow by doubling, between two gates of one call too");
        for (Recipe recipe : Recipe.ALL) {
            for (int first = 9; first <= 34; first++) {
                int start = first;
                GateBench x = Checks.withInputs(start - 1);
                Checks.due(recipe.call + " at node " + start, recipe.answer(start), () -> recipe.making.on(x));
                recipe.checkGates(x, start, recipe.gateCount);
                Checks.due("nodes()", start + recipe.gateCount, x::nodes);
                Checks.due(recipe.call + " again", recipe.answer(start), () -> recipe.making.on(x));
                x.set(1, true);
                x.set(2, true);
                x.set(3, true);
                boolean xor = recipe.call.startsWith("join(1");
                Checks.due("value of " + recipe.call + " with all set", !xor, () -> x.value(recipe.answer(start)));
            }
        }
    }

    private static void gatesAreFoundAcrossGrowth() {
        Checks.sentence("the same gate is never made twice, whatever has grown since");
        GateBench x = Checks.withInputs(12);
        for (int a = 2; a <= 24; a += 2) {
            for (int b = a + 2; b <= 25; b++) {
                x.and(b, a);
            }
        }
        int nodes = x.nodes();
        for (int n = 13; n < nodes; n++) {
            int node = n;
            Checks.due("and of node " + node + "'s literals", 2 * node, () -> x.and(x.node(node, 1), x.node(node, 2)));
        }
        Checks.due("nodes()", 1 + 12 + 2 * 66, x::nodes);
    }
}
