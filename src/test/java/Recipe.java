import java.util.List;

/** A call that makes gates over the inputs 2, 4 and 6, with the gates that the document has it make, in their order. */
final class Recipe {
    interface Making {
        int on(GateBench bench);
    }

    interface Gates {
        /** The gates' literals, where the first new gate's literal is g. */
        int[][] from(int g);
    }

    final String call;
    final Making making;
    final int gateCount;
    private final boolean negated;
    private final Gates gates;

    private Recipe(String call, boolean negated, Making making, Gates gates) {
        this.call = call;
        this.negated = negated;
        this.making = making;
        this.gates = gates;
        this.gateCount = gates.from(0).length;
    }

    static final List<Recipe> ALL = List.of(
        new Recipe("and(2, 4)", false, x -> x.and(2, 4), g -> new int[][] {{2, 4}}),
        new Recipe("join(0, 2, 4)", true, x -> x.join(0, 2, 4), g -> new int[][] {{3, 5}}),
        new Recipe("join(1, 2, 4)", true, x -> x.join(1, 2, 4), g -> new int[][] {{2, 5}, {3, 4}, {g + 1, g + 3}}),
        new Recipe("three(0, 2, 4, 6)", true, x -> x.three(0, 2, 4, 6),
            g -> new int[][] {{2, 4}, {3, 6}, {g + 1, g + 3}}),
        new Recipe("three(1, 2, 4, 6)", true, x -> x.three(1, 2, 4, 6),
            g -> new int[][] {{2, 5}, {3, 4}, {g + 1, g + 3}, {7, g + 5}, {6, g + 4}, {g + 7, g + 9}}),
        new Recipe("three(2, 2, 4, 6)", true, x -> x.three(2, 2, 4, 6),
            g -> new int[][] {{2, 4}, {2, 5}, {3, 4}, {g + 3, g + 5}, {6, g + 7}, {g + 1, g + 9}}));

    /** The answer that is due if the first new gate is this node. */
    int answer(int firstGate) {
        return 2 * (firstGate + gateCount - 1) + (negated ? 1 : 0);
    }

    /** Holds the first so many gates against what the document has made, the first one being this node. */
    void checkGates(GateBench bench, int firstGate, int count) {
        int[][] want = gates.from(2 * firstGate);
        for (int i = 0; i < count; i++) {
            Checks.gate(bench, firstGate + i, want[i][0], want[i][1]);
        }
    }
}
