import java.util.Arrays;
import java.util.HashSet;
import java.util.List;
import java.util.NoSuchElementException;
import java.util.Set;
import java.util.TreeMap;

/** Long runs of calls, each answer set beside that of a model written straight from the document's words. */
public final class ModelTest {
    private static final int CALLS = 512;
    private static final int RUNS_OF_A_KIND = 100;
    private static final int ENOUGH_WRONG = 20;
    // Wrong as a reader, and all but the 3 as a size too.
    private static final int[] WRONG = {-1, 3, 9, 100, Integer.MIN_VALUE, Integer.MAX_VALUE};

    /** Which bytes and sizes the keys of a run have: each kind brings out other shapes. */
    private enum Kind {
        TWO_BYTES(2, 1, 0, 8), SIGNS(4, 85, 0, 3), ONE_WIDE_FORK(256, 1, 1, 1),
        WIDE_FORKS(60, 4, 1, 2), ZEROS(1, 0, 0, 8), LONG_ONES(3, 127, 6, 8), SPARSE(256, 1, 0, 8);

        private final int bytes;
        private final int step;
        private final int least;
        private final int most;

        Kind(int bytes, int step, int least, int most) {
            this.bytes = bytes;
            this.step = step;
            this.least = least;
            this.most = most;
        }
    }

    private static final class Model {
        private final TreeMap<byte[], Integer> keys = new TreeMap<>(Arrays::compareUnsigned);
        private final List<TreeMap<byte[], Integer>> seen = Arrays.asList(null, null, null);
        private final byte[][] on = new byte[3][];
        private final boolean[] behind = new boolean[3];

        boolean put(long w, int n, int value) {
            byte[] key = key(w, n);
            if (!keys.containsKey(key) && keys.size() == 120) {
                throw new IllegalStateException();
            }
            return keys.put(key, value) == null;
        }

        int get(long w, int n) {
            Integer value = keys.get(key(w, n));
            if (value == null) {
                throw new NoSuchElementException();
            }
            return value;
        }

        boolean remove(long w, int n) {
            return isSize(n) && keys.remove(key(w, n)) != null;
        }

        int within(long w, int n) {
            return isSize(n) ? (int) keys.keySet().stream().filter(k -> begins(key(w, n), k)).count() : 0;
        }

        int rank(long w, int n) {
            return isSize(n) ? keys.headMap(key(w, n)).size() : -1;
        }

        int forks(int size) {
            if (size < 0 || size > 3) {
                return -1;
            }
            Set<String> rows = new HashSet<>();
            int found = 0;
            for (byte[] key : keys.keySet()) {
                for (int n = 0; n <= key.length; n++) {
                    byte[] row = Arrays.copyOf(key, n);
                    if (rows.add(Arrays.toString(row)) && isFork(row) && sizeOf(branches(row).size()) == size) {
                        found++;
                    }
                }
            }
            return found;
        }

        int depth(long w, int n) {
            if (!isSize(n)) {
                return -1;
            }
            int found = 0;
            for (int i = 0; i <= n; i++) {
                found += isFork(key(w, i)) ? 1 : 0;
            }
            return found;
        }

        private boolean isFork(byte[] row) {
            int ways = branches(row).size() + (keys.containsKey(row) ? 1 : 0);
            return ways >= 2;
        }

        private Set<Byte> branches(byte[] row) {
            Set<Byte> found = new HashSet<>();
            for (byte[] key : keys.keySet()) {
                if (begins(row, key) && key.length > row.length) {
                    found.add(key[row.length]);
                }
            }
            return found;
        }

        boolean open(int reader) {
            if (reader < 0 || reader > 2 || isOpen(reader)) {
                return false;
            }
            seen.set(reader, new TreeMap<>(keys));
            on[reader] = null;
            behind[reader] = false;
            return true;
        }

        boolean close(int reader) {
            if (!isOpen(reader)) {
                return false;
            }
            seen.set(reader, null);
            on[reader] = null;
            return true;
        }

        boolean seek(int reader, long w, int n) {
            byte[] key = key(w, n);
            return stand(reader, seenBy(reader).ceilingKey(key));
        }

        boolean next(int reader) {
            TreeMap<byte[], Integer> sees = seenBy(reader);
            if (behind[reader]) {
                return false;
            }
            if (on[reader] != null) {
                return stand(reader, sees.higherKey(on[reader]));
            }
            return stand(reader, sees.isEmpty() ? null : sees.firstKey());
        }

        private boolean stand(int reader, byte[] key) {
            on[reader] = key;
            behind[reader] = key == null;
            return key != null;
        }

        long keyOn(int reader) {
            long word = 0;
            for (int i = 0; i < lengthOn(reader); i++) {
                word |= (on[reader][i] & 255L) << (56 - 8 * i);
            }
            return word;
        }

        int lengthOn(int reader) {
            return isOpen(reader) && on[reader] != null ? on[reader].length : -1;
        }

        int valueOn(int reader) {
            return lengthOn(reader) < 0 ? 0 : seenBy(reader).get(on[reader]);
        }

        private boolean isOpen(int reader) {
            return reader >= 0 && reader <= 2 && seen.get(reader) != null;
        }

        private TreeMap<byte[], Integer> seenBy(int reader) {
            if (!isOpen(reader)) {
                throw new IllegalStateException();
            }
            return seen.get(reader);
        }

        private static boolean isSize(int n) {
            return n >= 0 && n <= 8;
        }

        private static byte[] key(long w, int n) {
            if (!isSize(n)) {
                throw new IllegalArgumentException();
            }
            byte[] key = new byte[n];
            for (int i = 0; i < n; i++) {
                key[i] = (byte) (w >>> (56 - 8 * i));
            }
            return key;
        }

        private static boolean begins(byte[] row, byte[] key) {
            return key.length >= row.length && Arrays.equals(row, Arrays.copyOf(key, row.length));
        }

        private static int sizeOf(int branches) {
            return branches <= 4 ? 0 : branches <= 16 ? 1 : branches <= 48 ? 2 : 3;
        }
    }

    private static final Due DUE = new Due();
    private static long state = 20261115L;

    public static void main(String[] args) {
        for (Kind kind : Kind.values()) {
            for (int i = 0; i < RUNS_OF_A_KIND; i++) {
                run(kind, i);
            }
        }
        DUE.end();
    }

    private static void run(Kind kind, int number) {
        ForkStore x = new ForkStore();
        Model m = new Model();
        // Some runs fill the store first, so that its limit and the larger forks are reached.
        int filling = number % 2 == 0 ? 200 : 0;
        for (int i = 0; i < CALLS && DUE.wrong() < ENOUGH_WRONG; i++) {
            int what = i < filling ? 0 : some(32);
            call(x, m, what, kind, "run " + kind + " " + number + ", call " + i + ": ");
        }
    }

    private static void call(ForkStore x, Model m, int what, Kind kind, String where) {
        int n = some(30) == 0 ? WRONG[some(WRONG.length)] : kind.least + some(kind.most - kind.least + 1);
        long w = someWord(kind, n);
        int r = some(30) == 0 ? WRONG[some(WRONG.length)] : some(3);
        int v = some(5) - 2;
        int size = some(6) - 1;
        String key = "(" + Long.toHexString(w) + ", " + n + ")";
        switch (what) {
            case 0, 1, 2, 3 -> both(where + "put" + key, () -> m.put(w, n, v), () -> x.put(w, n, v));
            case 4, 5, 6 -> both(where + "remove" + key, () -> m.remove(w, n), () -> x.remove(w, n));
            case 7 -> both(where + "get" + key, () -> m.get(w, n), () -> x.get(w, n));
            case 8 -> both(where + "size", () -> m.keys.size(), () -> x.size());
            case 9 -> both(where + "within" + key, () -> m.within(w, n), () -> x.within(w, n));
            case 10 -> both(where + "rank" + key, () -> m.rank(w, n), () -> x.rank(w, n));
            case 11, 12, 13 -> both(where + "forks " + size, () -> m.forks(size), () -> x.forks(size));
            case 14 -> both(where + "depth" + key, () -> m.depth(w, n), () -> x.depth(w, n));
            case 15, 16 -> both(where + "open " + r, () -> m.open(r), () -> x.open(r));
            case 17 -> both(where + "close " + r, () -> m.close(r), () -> x.close(r));
            case 18, 19 -> both(where + "seek " + r + key, () -> m.seek(r, w, n), () -> x.seek(r, w, n));
            case 20, 21, 22 -> both(where + "key " + r, () -> m.keyOn(r), () -> x.key(r));
            case 23, 24 -> both(where + "length " + r, () -> m.lengthOn(r), () -> x.length(r));
            case 25, 26, 27 -> both(where + "value " + r, () -> m.valueOn(r), () -> x.value(r));
            default -> both(where + "next " + r, () -> m.next(r), () -> x.next(r));
        }
    }

    private static void both(String what, Due.Call model, Due.Call program) {
        Object due;
        try {
            due = model.answer();
        } catch (RuntimeException e) {
            due = e.getClass();
        }
        DUE.is(what, due, program);
    }

    /** Bits behind the key's end are filled at will: they mean nothing. */
    private static long someWord(Kind kind, int n) {
        long word = 0;
        for (int i = 0; i < 8; i++) {
            int b = i < n ? some(kind.bytes) * kind.step : some(256);
            word = word << 8 | (b & 255);
        }
        return word;
    }

    /** A fixed row of numbers, the same in every run of the test. */
    private static int some(int bound) {
        state = state * 6364136223846793005L + 1442695040888963407L;
        return (int) ((state >>> 33) % bound);
    }
}
