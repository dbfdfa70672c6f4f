/** What the project's tests have in common: each answer is held against the one that is due. */
final class Checks {
    interface Call {
        Object answer();
    }

    private static int wrong = 0;
    private static String sentence = "";

    private Checks() {
    }

    /** The document's sentence that the next answers hold: a wrong one is told with it. */
    static void sentence(String words) {
        sentence = words;
    }

    static void due(String call, Object want, Call made) {
        Object got = outcome(made);
        if (!got.equals(want)) {
            wrong++;
            System.out.println("[" + sentence + "] " + call + " answered " + got + ", due is " + want);
        }
    }

    static void illegalArgument(String call, Call made) {
        due(call, "throws.IllegalArgumentException", made);
    }

    static void illegalState(String call, Call made) {
        due(call, "throws.IllegalStateException", made);
    }

    /** The answer, or the exact name of what was thrown: a class below the due one is as wrong as another one. */
    static Object outcome(Call made) {
        try {
            return made.answer();
        } catch (RuntimeException e) {
            return "throws." + e.getClass().getSimpleName();
        }
    }

    static GateBench withInputs(int count) {
        GateBench bench = new GateBench();
        for (int i = 0; i < count; i++) {
            bench.input();
        }
        return bench;
    }

    /** Four inputs, some of them set, and gates with a few inputs more, so many nodes in all; some values asked for. */
    static GateBench mixed(int nodes) {
        GateBench x = withInputs(4);
        x.set(1, true);
        x.set(3, true);
        int last = x.and(2, 6);
        for (int i = 0; x.nodes() < nodes; i++) {
            last = x.and(last + 1, 2 + 2 * (i % 4));
            if (i % 3 == 0) {
                x.value(last);
            }
            if (i % 4 == 3 && x.nodes() < nodes) {
                x.input();
            }
        }
        return x;
    }

    static void gate(GateBench x, int node, int first, int second) {
        due("node(" + node + ", 0)", 2, () -> x.node(node, 0));
        due("node(" + node + ", 1)", first, () -> x.node(node, 1));
        due("node(" + node + ", 2)", second, () -> x.node(node, 2));
    }

    /** All that a bench tells of itself and its first nodes, so that two pictures differ if one answer does. */
    static String picture(GateBench x, int nodes) {
        StringBuilder told = new StringBuilder();
        for (int node = 0; node < nodes; node++) {
            told.append("\nnode ").append(node).append(':');
            for (int what = 0; what <= 3; what++) {
                told.append(' ').append(x.node(node, what));
            }
            for (int literal = 2 * node; literal <= 2 * node + 1; literal++) {
                told.append(" / ").append(x.value(literal)).append(' ').append(x.cone(literal));
                told.append(' ').append(x.depth(literal)).append(' ').append(inputsBelow(x, nodes, literal));
            }
            if (x.node(node, 0) == 2) {
                told.append(" / ").append(x.and(x.node(node, 1), x.node(node, 2)));
            }
        }
        return told.toString();
    }

    /** All that a bench tells. */
    static String picture(GateBench x) {
        String told = picture(x, x.nodes());
        return x.nodes() + " nodes, " + x.inputs() + " inputs" + told;
    }

    private static String inputsBelow(GateBench x, int nodes, int literal) {
        StringBuilder told = new StringBuilder();
        for (int node = 1; node < nodes; node++) {
            if (x.node(node, 0) == 1) {
                told.append(x.below(node, literal) ? '+' : '-');
            }
        }
        return told.toString();
    }

    /** Ends the test; a wrong answer on the way makes it fail. */
    static void end() {
        System.out.println(wrong == 0 ? "all answers are as due" : wrong + " answers are not as due");
        if (wrong != 0) {
            System.exit(1);
        }
    }
}
