/** The STATE of draws, reckoned in longs, so that nothing wraps by itself. */
final class Draws {
    private static final long ALL = 1L << 32;

    private Draws() {
    }

    static int after(int state) {
        return (int) ((1664525L * (state & 0xFFFFFFFFL) + 1013904223L) % ALL);
    }

    static int after(int state, int draws) {
        int s = state;
        for (int i = 0; i < draws; i++) {
            s = after(s);
        }
        return s;
    }

    /** What the next DRAW of m is. */
    static int drawn(int state, int m) {
        return (int) ((after(state) & 0xFFFFFFFFL) / 256 % m);
    }

    /** The STATE that one DRAW leads to another one. */
    static int before(int state) {
        int inverse = 1;
        for (int i = 0; i < 6; i++) {
            inverse *= 2 - 1664525 * inverse;
        }
        return (state - 1013904223) * inverse;
    }

    /** The first STATE from 0 on whose next DRAW of 1000 is so, and the one after it of 1000, and of 7 after that. */
    static int with(int first, int second, int kind) {
        for (int s = 0; s < 1 << 30; s++) {
            if (drawn(s, 1000) == first && (second < 0 || drawn(after(s), 1000) == second)
                && (kind < 0 || drawn(after(s, 2), 7) == kind)) {
                return s;
            }
        }
        throw new IllegalStateException("no such draws");
    }
}
