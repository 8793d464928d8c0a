/** The document's "Terms", sentence by sentence, at their edges: keys, their order, forks and readers. */
public final class TermsBoundaryTest {
    private static final long[] WORDS = {0L, -1L, 0x0123_4567_89AB_CDEFL, 0x8000_0000_0000_0001L};
    private static final int[] EDGE_BYTES = {0, 1, 127, 128, 254, 255};
    // On each side of 4, 16 and 48, the least forks, and the most that 120 keys can make.
    private static final int[] BRANCHES = {1, 2, 3, 4, 5, 6, 15, 16, 17, 47, 48, 49, 119, 120};
    private static final int[] NO_FORKS = {0, 0, 0, 0};

    private static final Due DUE = new Due();

    public static void main(String[] args) {
        aKeyHas0To8Bytes();
        bitsInAndBehindTheKey();
        keysAreOrderedByteByByte();
        aKeyComesBeforeThoseItBegins();
        valuesAreInts();
        atMost120KeysHaveValues();
        fewerThanTwoKeysMakeNoFork();
        twoKeysMakeAFork();
        sizesOfForksAtTheEdges();
        sizesOfForksGoingDown();
        branchesAreDifferentBytes();
        theMostForks();
        keysWithoutValuesMakeNoFork();
        readersAre0To2();
        readersSeeWhatWasThere();
        DUE.end();
    }

    private static void aKeyHas0To8Bytes() {
        ForkStore x = new ForkStore();
        for (int i = 0; i <= 8; i++) {
            int n = i;
            DUE.is("a key of size " + n, true, () -> x.put(-1L, n, n));
            DUE.is("keys up to size " + n, n + 1, () -> x.size());
        }
        for (int i = 0; i <= 8; i++) {
            int n = i;
            DUE.is("the value at size " + n, n, () -> x.get(-1L, n));
        }
        for (int n : Edges.WRONG_SIZES) {
            DUE.is("no key of size " + n, Edges.ILLEGAL_ARGUMENT, () -> x.put(-1L, n, 0));
        }
        DUE.is("nine sizes", 9, () -> x.size());
    }

    private static void bitsInAndBehindTheKey() {
        for (long w : WORDS) {
            for (int n = 0; n <= 8; n++) {
                for (int bit = 0; bit < 64; bit++) {
                    bitOfAKey(w, n, bit);
                }
            }
        }
    }

    private static void bitOfAKey(long w, int n, int bit) {
        ForkStore x = new ForkStore();
        long other = w ^ 1L << bit;
        boolean same = 63 - bit >= 8 * n;
        boolean comesBehind = !same && (other >>> bit & 1) == 1;
        String what = Long.toHexString(w) + " of size " + n + ", bit " + bit + " changed: ";
        x.put(w, n, 7);
        if (n < 8) {
            x.put(Edges.withByte(w, n, 9), n + 1, 8);
        }
        x.open(0);
        int keys = x.size();
        DUE.is(what + "get", same ? 7 : Edges.NO_SUCH_ELEMENT, () -> x.get(other, n));
        DUE.is(what + "within", same ? keys : 0, () -> x.within(other, n));
        DUE.is(what + "rank", comesBehind ? keys : 0, () -> x.rank(other, n));
        DUE.is(what + "depth", same && n < 8 ? 1 : 0, () -> x.depth(other, n));
        DUE.is(what + "seek", !comesBehind, () -> x.seek(0, other, n));
        DUE.is(what + "key", comesBehind ? 0L : Edges.firstBytes(w, n), () -> x.key(0));
        DUE.is(what + "put", !same, () -> x.put(other, n, 6));
        DUE.is(what + "the value", same ? 6 : 7, () -> x.get(w, n));
        DUE.is(what + "remove", true, () -> x.remove(other, n));
        DUE.is(what + "what is left", same ? Edges.NO_SUCH_ELEMENT : 7, () -> x.get(w, n));
    }

    private static void keysAreOrderedByteByByte() {
        for (long before : new long[] {0L, -1L}) {
            for (int place = 0; place < 8; place++) {
                orderAtAPlace(before, place);
            }
        }
        ForkStore x = new ForkStore();
        x.put(Due.word(2), 1, 2);
        x.put(Due.word(1, 255, 255, 255, 255, 255, 255, 255), 8, 1);
        x.put(Due.word(2, 0, 1), 3, 3);
        x.put(Due.word(2, 1), 2, 4);
        walk(x, "an earlier byte goes before the sizes", 1, 2, 3, 4);
    }

    private static void orderAtAPlace(long before, int place) {
        ForkStore x = new ForkStore();
        for (int i = EDGE_BYTES.length - 1; i >= 0; i--) {
            x.put(Edges.withByte(before, place, EDGE_BYTES[i]), place + 1, i);
        }
        for (int i = 0; i < EDGE_BYTES.length; i++) {
            long w = Edges.withByte(before, place, EDGE_BYTES[i]);
            DUE.is("rank of byte " + EDGE_BYTES[i] + " at " + place, i, () -> x.rank(w, place + 1));
        }
        walk(x, "the bytes at " + place, 0, 1, 2, 3, 4, 5);
    }

    private static void aKeyComesBeforeThoseItBegins() {
        for (long w : WORDS) {
            ForkStore x = new ForkStore();
            for (int n = 8; n >= 0; n--) {
                x.put(w, n, n);
            }
            for (int i = 0; i <= 8; i++) {
                int n = i;
                DUE.is("rank of the beginning of size " + n, n, () -> x.rank(w, n));
                DUE.is("keys behind the beginning of size " + n, 9 - n, () -> x.within(w, n));
            }
            walk(x, "beginnings of " + Long.toHexString(w), 0, 1, 2, 3, 4, 5, 6, 7, 8);
        }
    }

    private static void walk(ForkStore x, String what, int... values) {
        x.open(0);
        for (int value : values) {
            DUE.is(what + ": there is one more", true, () -> x.next(0));
            DUE.is(what + ": in order", value, () -> x.value(0));
        }
        DUE.is(what + ": there is no more", false, () -> x.next(0));
    }

    private static void valuesAreInts() {
        ForkStore x = new ForkStore();
        for (int value : Edges.INTS) {
            x.put(5L, 8, value);
            x.open(1);
            x.next(1);
            DUE.is("the value " + value, value, () -> x.get(5L, 8));
            DUE.is("the value " + value + " seen", value, () -> x.value(1));
            x.close(1);
        }
    }

    private static void atMost120KeysHaveValues() {
        ForkStore x = new ForkStore();
        for (int i = 0; i < 119; i++) {
            x.put(i, 8, i);
        }
        DUE.is("119 keys", 119, () -> x.size());
        DUE.is("key 120", true, () -> x.put(119, 8, 119));
        DUE.is("120 keys", 120, () -> x.size());
        DUE.is("key 121", Edges.ILLEGAL_STATE, () -> x.put(120, 8, 120));
        DUE.is("still 120 keys", 120, () -> x.size());
        DUE.is("key 121 has no value", Edges.NO_SUCH_ELEMENT, () -> x.get(120, 8));
    }

    private static void fewerThanTwoKeysMakeNoFork() {
        lookAtForks(new ForkStore(), "no keys", NO_FORKS);
        for (int n = 0; n <= 8; n++) {
            int size = n;
            ForkStore x = new ForkStore();
            x.put(-1L, n, 1);
            lookAtForks(x, "one key of size " + n, NO_FORKS);
            DUE.is("depth of one key of size " + n, 0, () -> x.depth(-1L, size));
        }
    }

    private static void twoKeysMakeAFork() {
        for (long w : WORDS) {
            for (int place = 0; place < 8; place++) {
                for (int goesOn = place + 1; goesOn <= 8; goesOn++) {
                    ForkStore differ = new ForkStore();
                    differ.put(Edges.withByte(w, place, 0), goesOn, 1);
                    differ.put(Edges.withByte(w, place, 255), place + 1, 2);
                    lookAtTheOnlyFork(differ, "two differ", w, place);
                    ForkStore ends = new ForkStore();
                    ends.put(w, place, 1);
                    ends.put(w, goesOn, 2);
                    lookAtTheOnlyFork(ends, "one ends", w, place);
                }
            }
        }
    }

    private static void lookAtTheOnlyFork(ForkStore x, String what, long w, int length) {
        String where = what + " behind " + length + " bytes of " + Long.toHexString(w);
        lookAtForks(x, where, sizeOf(2));
        for (int i = 0; i <= 8; i++) {
            int n = i;
            DUE.is(where + ": depth at size " + n, n < length ? 0 : 1, () -> x.depth(w, n));
        }
    }

    private static void sizesOfForksAtTheEdges() {
        for (int length = 0; length < 8; length++) {
            for (int branches : BRANCHES) {
                if (branches > 1) {
                    lookAtBranches(length, branches, false);
                }
                if (branches < Edges.LIMIT) {
                    lookAtBranches(length, branches, true);
                }
            }
        }
    }

    /** Bytes from 0 up and from 255 down, so that both ends of a byte are among the branches. */
    private static int branchByte(int i) {
        return i % 2 == 0 ? i / 2 : 255 - i / 2;
    }

    private static void lookAtBranches(int length, int branches, boolean endsThere) {
        ForkStore x = new ForkStore();
        long w = 0x8001_7FFF_00FE_0280L;
        for (int i = 0; i < branches; i++) {
            x.put(Edges.withByte(w, length, branchByte(i)), length + 1, i);
        }
        if (endsThere) {
            x.put(w, length, 0);
        }
        lookAtForks(x, branches + " branches behind " + length + " bytes, with its key " + endsThere,
            sizeOf(branches));
    }

    private static void sizesOfForksGoingDown() {
        for (int branches : BRANCHES) {
            ForkStore x = new ForkStore();
            for (int i = 0; i < branches; i++) {
                x.put(Due.word(7, branchByte(i)), 2, i);
            }
            x.remove(Due.word(7, branchByte(branches - 1)), 2);
            String what = branches + " branches less one";
            lookAtForks(x, what, branches > 2 ? sizeOf(branches - 1) : NO_FORKS);
        }
        ForkStore x = new ForkStore();
        x.put(Due.word(7), 1, 0);
        x.put(Due.word(7, 0), 2, 1);
        x.put(Due.word(7, 1), 2, 2);
        x.remove(Due.word(7, 1), 2);
        lookAtForks(x, "one branch and the key itself", sizeOf(1));
        x.remove(Due.word(7), 1);
        lookAtForks(x, "one branch alone", NO_FORKS);
    }

    private static void branchesAreDifferentBytes() {
        ForkStore x = new ForkStore();
        for (int first = 0; first < 4; first++) {
            for (int second = 0; second < 17; second++) {
                x.put(Due.word(first * 85, second), 2, 1);
            }
        }
        lookAtForks(x, "4 branches with 17 each", new int[] {1, 0, 4, 0});
        x.put(Due.word(1, 1), 2, 1);
        lookAtForks(x, "a fifth branch", new int[] {0, 1, 4, 0});
        x.put(0L, 0, 1);
        lookAtForks(x, "and the empty key, no branch", new int[] {0, 1, 4, 0});
        x.remove(Due.word(255, 16), 2);
        lookAtForks(x, "the last branch of a fork gone", new int[] {0, 2, 3, 0});
    }

    private static void theMostForks() {
        ForkStore x = new ForkStore();
        for (int i = 0; i < Edges.LIMIT; i++) {
            x.put(Due.word(i >> 6 & 1, i >> 5 & 1, i >> 4 & 1, i >> 3 & 1, i >> 2 & 1, i >> 1 & 1, i & 1), 7, i);
        }
        lookAtForks(x, "120 keys, two branches each", new int[] {119, 0, 0, 0});
        DUE.is("120 keys, depth", 7, () -> x.depth(0L, 7));
    }

    private static void keysWithoutValuesMakeNoFork() {
        ForkStore x = new ForkStore();
        x.put(Due.word(1, 2), 2, 1);
        x.put(Due.word(1, 3), 2, 2);
        x.open(0);
        x.remove(Due.word(1, 3), 2);
        DUE.is("a reader sees two keys", true, () -> x.seek(0, Due.word(1, 3), 2));
        lookAtForks(x, "one of them has a value", NO_FORKS);
        DUE.is("depth where a reader sees a fork", 0, () -> x.depth(Due.word(1, 2), 2));
        DUE.is("a key asked for gets no value", Edges.NO_SUCH_ELEMENT, () -> x.get(Due.word(1, 4), 2));
        lookAtForks(x, "and makes no fork", NO_FORKS);
    }

    /** How many forks there are of each size when there is one alone, with these branches. */
    private static int[] sizeOf(int branches) {
        int[] due = new int[4];
        due[branches <= 4 ? 0 : branches <= 16 ? 1 : branches <= 48 ? 2 : 3] = 1;
        return due;
    }

    private static void lookAtForks(ForkStore x, String what, int[] due) {
        for (int i = 0; i < 4; i++) {
            int size = i;
            DUE.is(what + ": forks of size " + size, due[size], () -> x.forks(size));
        }
    }

    private static void readersAre0To2() {
        ForkStore x = new ForkStore();
        for (int r : Edges.WRONG_READERS) {
            DUE.is("no reader " + r, false, () -> x.open(r));
        }
        x.put(0L, 0, 1);
        x.put(0L, 1, 2);
        for (int i = 0; i < 3; i++) {
            int r = i;
            DUE.is("reader " + r, true, () -> x.open(r));
        }
        x.next(1);
        x.next(2);
        x.next(2);
        for (int i = 0; i < 3; i++) {
            int r = i;
            DUE.is("reader " + r + " stands by itself", r - 1, () -> x.length(r));
        }
    }

    private static void readersSeeWhatWasThere() {
        ForkStore x = new ForkStore();
        x.open(0);
        x.put(Due.word(1), 1, 10);
        x.open(1);
        x.put(Due.word(1), 1, 11);
        x.put(Due.word(0), 1, 5);
        x.open(2);
        x.remove(Due.word(1), 1);
        x.remove(Due.word(0), 1);
        DUE.is("none has a value now", 0, () -> x.size());
        DUE.is("reader 0 saw none", false, () -> x.next(0));
        DUE.is("reader 1 saw one", true, () -> x.next(1));
        DUE.is("reader 1 saw its value", 10, () -> x.value(1));
        DUE.is("reader 1 saw no more", false, () -> x.next(1));
        DUE.is("reader 2 saw the first", true, () -> x.next(2));
        DUE.is("reader 2 saw its value", 5, () -> x.value(2));
        DUE.is("reader 2 saw the second", true, () -> x.next(2));
        DUE.is("reader 2 saw the later value", 11, () -> x.value(2));
        DUE.is("reader 2 saw no more", false, () -> x.next(2));
    }
}
