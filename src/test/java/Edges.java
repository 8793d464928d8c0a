import java.util.NoSuchElementException;

/** The edges that the boundary tests share: what lies just outside each range, and stores at their limits. */
final class Edges {
    static final Class<?> ILLEGAL_ARGUMENT = IllegalArgumentException.class;
    static final Class<?> ILLEGAL_STATE = IllegalStateException.class;
    static final Class<?> NO_SUCH_ELEMENT = NoSuchElementException.class;

    static final int LIMIT = 120;
    static final int[] INTS = {Integer.MIN_VALUE, -1, 0, 1, Integer.MAX_VALUE};

    // The first outside on each side, the ends of int, and those that a byte or a shift would take for right ones.
    static final int[] WRONG_SIZES = {-1, 9, -8, 64, 72, 256, 264, -256, 1 << 16,
        Integer.MIN_VALUE, Integer.MIN_VALUE + 8, Integer.MAX_VALUE};
    static final int[] WRONG_READERS = {-1, 3, -2, 4, 256, 258, -256, 1 << 16,
        Integer.MIN_VALUE, Integer.MIN_VALUE + 2, Integer.MAX_VALUE};
    static final int[] WRONG_FORK_SIZES = {-1, 4, -2, 5, 256, 259, -256, 1 << 16,
        Integer.MIN_VALUE, Integer.MIN_VALUE + 3, Integer.MAX_VALUE};

    private Edges() {
    }

    /** The keys 1 3 5 .. 239, of one byte, each with its byte for a value: room before, between and behind. */
    static ForkStore full() {
        ForkStore x = new ForkStore();
        for (int i = 0; i < LIMIT; i++) {
            x.put(fullKey(i), 1, 2 * i + 1);
        }
        return x;
    }

    static long fullKey(int i) {
        return Due.word(2 * i + 1);
    }

    /** The first n bytes of a word, the others 0, put together byte by byte. */
    static long firstBytes(long w, int n) {
        int[] bytes = new int[n];
        for (int i = 0; i < n; i++) {
            bytes[i] = (int) (w >>> (56 - 8 * i)) & 255;
        }
        return Due.word(bytes);
    }

    /** A word with one byte put in the place of another, the places counted from the highest, 0. */
    static long withByte(long w, int place, int b) {
        int shift = 56 - 8 * place;
        return w & ~(255L << shift) | (long) b << shift;
    }
}
