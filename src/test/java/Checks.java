/** What the project's tests have in common: each answer is held against the one that is due. */
final class Checks {
    interface Call {
        Object answer();
    }

    private static int wrong = 0;

    private Checks() {
    }

    static void due(String call, Object want, Call made) {
        Object got = outcome(made);
        if (!got.equals(want)) {
            wrong++;
            System.out.println(call + " answered " + got + ", due is " + want);
        }
    }

    static void illegalArgument(String call, Call made) {
        due(call, "throws.IllegalArgumentException", made);
    }

    static void illegalState(String call, Call made) {
        due(call, "throws.IllegalStateException", made);
    }

    /** The answer, or the exact name of what was thrown: a class below the due one is as wrong as another one. */
    static Object outcome(Call made) {
        try {
            return made.answer();
        } catch (RuntimeException e) {
            return "throws." + e.getClass().getSimpleName();
        }
    }

    static GateBench withInputs(int count) {
        GateBench bench = new GateBench();
        for (int i = 0; i < count; i++) {
            bench.input();
        }
        return bench;
    }

    /** Ends the test; a wrong answer on the way makes it fail. */
    static void end() {
        System.out.println(wrong == 0 ? "all answers are as due" : wrong + " answers are not as due");
        if (wrong != 0) {
            System.exit(1);
        }
    }
}
