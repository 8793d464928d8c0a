/** Promises 10 to 16 at their edges: each reader and the ones outside, before all, on each end, and behind all. */
public final class ReaderBoundaryTest {
    private static final Due DUE = new Due();

    public static void main(String[] args) {
        noSuchReader(new ForkStore());
        noSuchReader(threeOpen());
        for (int r = 0; r < 3; r++) {
            promise10Open(r);
            promise10OpenOnes(r);
            promise11Close(r);
            promise12SeekNotOpen(r);
            promise12SeekTheLeastNotBefore(r);
            promise12SeekAtTheEnds(r);
            promise13NextNotOpen(r);
            promise13NextFromEnd(r);
            promise13NextOverAll(r);
            promises14To16OnNone(r);
            promises14To16OnEnds(r);
        }
        DUE.end();
    }

    private static ForkStore threeOpen() {
        ForkStore x = Edges.full();
        for (int r = 0; r < 3; r++) {
            x.open(r);
            x.next(r);
        }
        return x;
    }

    private static void noSuchReader(ForkStore x) {
        for (int r : Edges.WRONG_READERS) {
            DUE.is("10 no reader " + r, false, () -> x.open(r));
            DUE.is("11 no reader " + r, false, () -> x.close(r));
            DUE.is("12 no reader " + r, Edges.ILLEGAL_STATE, () -> x.seek(r, 0L, 0));
            DUE.is("12 no reader " + r + " and n 9", Edges.ILLEGAL_ARGUMENT, () -> x.seek(r, 0L, 9));
            DUE.is("13 no reader " + r, Edges.ILLEGAL_STATE, () -> x.next(r));
            lookAtNone(x, r, "no such reader");
        }
    }

    private static void lookAtNone(ForkStore x, int r, String where) {
        DUE.is("14 reader " + r + ", " + where, 0L, () -> x.key(r));
        DUE.is("15 reader " + r + ", " + where, ForkStore.NONE, () -> x.length(r));
        DUE.is("16 reader " + r + ", " + where, 0, () -> x.value(r));
    }

    private static void lookAt(ForkStore x, int r, String where, long key, int length, int value) {
        DUE.is("14 reader " + r + ", " + where, key, () -> x.key(r));
        DUE.is("15 reader " + r + ", " + where, length, () -> x.length(r));
        DUE.is("16 reader " + r + ", " + where, value, () -> x.value(r));
    }

    private static void promise10Open(int r) {
        ForkStore x = new ForkStore();
        DUE.is("10 with no keys", true, () -> x.open(r));
        DUE.is("10 sees none", false, () -> x.next(r));
        x.put(-1L, 8, 5);
        x.close(r);
        DUE.is("10 with one key", true, () -> x.open(r));
        lookAtNone(x, r, "opened again, before all");
        DUE.is("10 the least", true, () -> x.next(r));
        lookAt(x, r, "the only one", -1L, 8, 5);
        x.remove(-1L, 8);
        x.close(r);
        DUE.is("10 with none again", true, () -> x.open(r));
        lookAtNone(x, r, "opened with none");
        DUE.is("10 sees none of before", false, () -> x.next(r));
        DUE.is("10 seeks none of before", false, () -> x.seek(r, 0L, 0));
    }

    private static void promise10OpenOnes(int r) {
        ForkStore x = new ForkStore();
        x.put(Due.word(1), 1, 1);
        x.put(Due.word(2), 1, 2);
        x.open(r);
        x.put(Due.word(0), 1, 0);
        DUE.is("10 open, before all", false, () -> x.open(r));
        x.next(r);
        lookAt(x, r, "what it saw first", Due.word(1), 1, 1);
        DUE.is("10 open, on one", false, () -> x.open(r));
        lookAt(x, r, "it stays on it", Due.word(1), 1, 1);
        x.seek(r, Due.word(3), 1);
        DUE.is("10 open, behind all", false, () -> x.open(r));
        DUE.is("10 it stays behind", false, () -> x.next(r));
        DUE.is("10 another one", true, () -> x.open((r + 1) % 3));
        x.next((r + 1) % 3);
        lookAt(x, (r + 1) % 3, "it sees the later one", Due.word(0), 1, 0);
    }

    private static void promise11Close(int r) {
        ForkStore x = Edges.full();
        DUE.is("11 never opened", false, () -> x.close(r));
        x.open(r);
        for (int other = 0; other < 3; other++) {
            int o = other;
            if (o != r) {
                DUE.is("11 not open beside an open one", false, () -> x.close(o));
                x.open(o);
                x.seek(o, Due.word(5), 1);
            }
        }
        x.next(r);
        DUE.is("11 open", true, () -> x.close(r));
        DUE.is("11 closed", false, () -> x.close(r));
        lookAtNone(x, r, "closed");
        DUE.is("12 closed", Edges.ILLEGAL_STATE, () -> x.seek(r, 0L, 0));
        DUE.is("13 closed", Edges.ILLEGAL_STATE, () -> x.next(r));
        lookAt(x, (r + 1) % 3, "another stays", Due.word(5), 1, 5);
        lookAt(x, (r + 2) % 3, "another stays", Due.word(5), 1, 5);
        DUE.is("11 the keys stay", 120, () -> x.size());
    }

    private static void promise12SeekNotOpen(int r) {
        ForkStore x = Edges.full();
        for (int n = 0; n <= 8; n++) {
            int size = n;
            DUE.is("12 not open, n " + n, Edges.ILLEGAL_STATE, () -> x.seek(r, 0L, size));
        }
        for (int n : Edges.WRONG_SIZES) {
            DUE.is("12 not open and n " + n, Edges.ILLEGAL_ARGUMENT, () -> x.seek(r, 0L, n));
        }
        x.open(r);
        x.seek(r, Due.word(5), 1);
        for (int n : Edges.WRONG_SIZES) {
            DUE.is("12 n " + n, Edges.ILLEGAL_ARGUMENT, () -> x.seek(r, 0L, n));
        }
        lookAt(x, r, "where it was", Due.word(5), 1, 5);
    }

    private static void promise12SeekTheLeastNotBefore(int r) {
        ForkStore x = Edges.full();
        x.open(r);
        for (int i = Edges.LIMIT - 1; i >= 0; i -= 7) {
            int b = 2 * i + 1;
            DUE.is("12 to " + b, true, () -> x.seek(r, Due.word(b), 1));
            lookAt(x, r, "the key itself", Due.word(b), 1, b);
            DUE.is("12 to just before " + b, true, () -> x.seek(r, Due.word(b - 1), 1));
            lookAt(x, r, "the first behind", Due.word(b), 1, b);
            DUE.is("12 to just behind " + b, b != 239, () -> x.seek(r, Due.word(b), 2));
            if (b != 239) {
                lookAt(x, r, "the next one", Due.word(b + 2), 1, b + 2);
            } else {
                lookAtNone(x, r, "behind the last");
            }
        }
    }

    private static void promise12SeekAtTheEnds(int r) {
        ForkStore x = new ForkStore();
        x.open(r);
        DUE.is("12 with no keys", false, () -> x.seek(r, 0L, 0));
        DUE.is("12 with no keys it is behind all", false, () -> x.next(r));
        x.close(r);
        x.put(-1L, 7, 7);
        x.put(0L, 1, 1);
        x.open(r);
        DUE.is("12 the greatest of all keys", false, () -> x.seek(r, -1L, 8));
        lookAtNone(x, r, "behind all");
        DUE.is("12 behind all it stays", false, () -> x.next(r));
        DUE.is("12 the least of all keys", true, () -> x.seek(r, -1L, 0));
        lookAt(x, r, "on the least", 0L, 1, 1);
        DUE.is("12 the last", true, () -> x.seek(r, -1L, 7));
        lookAt(x, r, "on the last", -1L << 8, 7, 7);
        x.put(0L, 0, 9);
        x.put(-1L, 8, 8);
        DUE.is("12 what came later, behind", false, () -> x.seek(r, -1L, 8));
        DUE.is("12 what came later, before", true, () -> x.seek(r, 0L, 0));
        lookAt(x, r, "on what it saw", 0L, 1, 1);
    }

    private static void promise13NextNotOpen(int r) {
        ForkStore x = threeOpen();
        x.close(r);
        DUE.is("13 not open", Edges.ILLEGAL_STATE, () -> x.next(r));
        lookAtNone(x, r, "not open");
        DUE.is("13 another", true, () -> x.next((r + 1) % 3));
        lookAt(x, (r + 1) % 3, "another went on", Due.word(3), 1, 3);
        lookAt(x, (r + 2) % 3, "the third did not", Due.word(1), 1, 1);
    }

    private static void promise13NextFromEnd(int r) {
        ForkStore x = new ForkStore();
        x.open(r);
        DUE.is("13 no keys", false, () -> x.next(r));
        DUE.is("13 no keys still", false, () -> x.next(r));
        lookAtNone(x, r, "behind none");
        x.close(r);
        x.put(0L, 0, 3);
        x.open(r);
        DUE.is("13 the least", true, () -> x.next(r));
        lookAt(x, r, "on the only one", 0L, 0, 3);
        for (int i = 0; i < 5; i++) {
            DUE.is("13 none behind", false, () -> x.next(r));
            lookAtNone(x, r, "behind all");
        }
        DUE.is("13 back to it", true, () -> x.seek(r, 0L, 0));
        lookAt(x, r, "on the only one again", 0L, 0, 3);
    }

    private static void promise13NextOverAll(int r) {
        ForkStore x = Edges.full();
        x.open(r);
        for (int i = 0; i < Edges.LIMIT; i++) {
            int b = 2 * i + 1;
            // What has been seen stays, though the key loses its value under the reader.
            x.remove(Edges.fullKey(i), 1);
            DUE.is("13 key " + i, true, () -> x.next(r));
            DUE.is("16 key " + i, b, () -> x.value(r));
        }
        DUE.is("13 behind 120 keys", false, () -> x.next(r));
        lookAtNone(x, r, "behind 120 keys");
        DUE.is("13 all have lost their values", 0, () -> x.size());
    }

    private static void promises14To16OnNone(int r) {
        ForkStore x = new ForkStore();
        x.put(-1L, 8, -1);
        lookAtNone(x, r, "never opened");
        x.open(r);
        lookAtNone(x, r, "before all");
        x.next(r);
        lookAt(x, r, "on one", -1L, 8, -1);
        x.next(r);
        lookAtNone(x, r, "behind all");
        x.seek(r, 0L, 0);
        x.close(r);
        lookAtNone(x, r, "closed on one");
        x.open(r);
        lookAtNone(x, r, "before all again");
    }

    private static void promises14To16OnEnds(int r) {
        for (int n = 0; n <= 8; n++) {
            for (int value : Edges.INTS) {
                for (long w : new long[] {0L, -1L, Long.MIN_VALUE, Long.MAX_VALUE}) {
                    ForkStore x = new ForkStore();
                    x.put(w, n, value);
                    x.open(r);
                    x.next(r);
                    x.put(w, n, ~value);
                    lookAt(x, r, "on " + w + " of size " + n, Edges.firstBytes(w, n), n, value);
                }
            }
        }
    }
}
