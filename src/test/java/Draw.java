/** A fixed row of numbers that look drawn: every run of the tests has the same. */
final class Draw {
    private static int seed = 7;

    private Draw() {
    }

    /** 0 .. bound - 1. */
    static int below(int bound) {
        seed = seed * 1103515245 + 12345;
        return (seed >>> 8) % bound;
    }
}
