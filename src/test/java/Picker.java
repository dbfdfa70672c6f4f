/** Numbers without order for mixed runs; the same seed always gives the same ones, so a failed run can be run again. */
final class Picker {
    private long state;

    Picker(long seed) {
        this.state = seed;
    }

    /** A number from 0 to below the bound. */
    int pick(int bound) {
        state = state * 6364136223846793005L + 1442695040888963407L;
        return (int) ((state >>> 33) % bound);
    }
}
