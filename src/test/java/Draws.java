// The draws of the document, told with numbers of 0 to 2^32 - 1 instead of an int that wraps around.
final class Draws {
    private static final long WHOLE = 1L << 32;

    private long x;

    Draws(int seed) {
        x = seed;
    }

    int next(int n) {
        // Both factors are split so that no product goes beyond a long.
        long low = 1103515245L % 65536 * x % WHOLE;
        long high = 1103515245L / 65536 * x % WHOLE * 65536 % WHOLE;
        x = (low + high + 12345) % WHOLE;
        return (int) (x / 65536 % n);
    }

    // A draw of 2 * most + 1, less most.
    int around(int most) {
        return next(2 * most + 1) - most;
    }
}
