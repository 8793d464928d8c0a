/** Promises 1 to 9 at their edges: the empty store, the full one, and sizes inside and outside. */
public final class StoreBoundaryTest {
    private static final Due DUE = new Due();

    public static void main(String[] args) {
        promise1NoKeys();
        promise1NoOpenReaders();
        promise2TrueIfItHadNone();
        promise2WrongSize();
        promise2Full();
        promise3WrongSize();
        promise3None();
        promise4Refused();
        promise4AtTheEnds();
        promise4AmongSizes();
        promise5NoneToAll();
        promise6Itself();
        promise6WrongSize();
        promise7AtTheEnds();
        promise7WrongSize();
        promise8SuchSizes();
        promise9Itself();
        promise9WrongSize();
        DUE.end();
    }

    private static void promise1NoKeys() {
        ForkStore x = new ForkStore();
        DUE.is("1 size", 0, () -> x.size());
        for (int i = 0; i <= 8; i++) {
            int n = i;
            for (long w : new long[] {0L, -1L}) {
                DUE.is("1 get " + w + " " + n, Edges.NO_SUCH_ELEMENT, () -> x.get(w, n));
                DUE.is("1 remove " + w + " " + n, false, () -> x.remove(w, n));
                DUE.is("1 within " + w + " " + n, 0, () -> x.within(w, n));
                DUE.is("1 rank " + w + " " + n, 0, () -> x.rank(w, n));
                DUE.is("1 depth " + w + " " + n, 0, () -> x.depth(w, n));
            }
        }
        for (int i = 0; i < 4; i++) {
            int size = i;
            DUE.is("1 forks " + size, 0, () -> x.forks(size));
        }
        DUE.is("1 open", true, () -> x.open(0));
        DUE.is("1 a reader sees none", false, () -> x.next(0));
    }

    private static void promise1NoOpenReaders() {
        ForkStore x = new ForkStore();
        for (int i = 0; i < 3; i++) {
            int r = i;
            DUE.is("1 close " + r, false, () -> x.close(r));
            DUE.is("1 seek " + r, Edges.ILLEGAL_STATE, () -> x.seek(r, 0L, 0));
            DUE.is("1 next " + r, Edges.ILLEGAL_STATE, () -> x.next(r));
            DUE.is("1 key " + r, 0L, () -> x.key(r));
            DUE.is("1 length " + r, -1, () -> x.length(r));
            DUE.is("1 value " + r, 0, () -> x.value(r));
        }
        ForkStore other = Edges.full();
        other.open(0);
        DUE.is("1 another object's keys", 0, () -> x.size());
        DUE.is("1 another object's reader", false, () -> x.close(0));
    }

    private static void promise2TrueIfItHadNone() {
        ForkStore x = new ForkStore();
        for (int i = 0; i <= 8; i++) {
            int n = i;
            DUE.is("2 the first value at size " + n, true, () -> x.put(0L, n, 0));
            DUE.is("2 the same again at size " + n, false, () -> x.put(0L, n, 0));
            DUE.is("2 another at size " + n, false, () -> x.put(0L, n, -1));
            DUE.is("2 it has that at size " + n, -1, () -> x.get(0L, n));
            x.remove(0L, n);
            DUE.is("2 a value after none at size " + n, true, () -> x.put(0L, n, n));
        }
        for (int i = 0; i <= 8; i++) {
            int n = i;
            DUE.is("2 no other's value at size " + n, n, () -> x.get(0L, n));
        }
    }

    private static void promise2WrongSize() {
        for (int n : Edges.WRONG_SIZES) {
            ForkStore none = new ForkStore();
            DUE.is("2 n " + n, Edges.ILLEGAL_ARGUMENT, () -> none.put(-1L, n, 1));
            DUE.is("2 n " + n + ", no key", 0, () -> none.size());
        }
    }

    private static void promise2Full() {
        ForkStore x = Edges.full();
        long[] places = {Due.word(0), Due.word(2), Due.word(120), Due.word(238), Due.word(240)};
        for (long w : places) {
            DUE.is("2 key 121", Edges.ILLEGAL_STATE, () -> x.put(w, 1, 1));
        }
        DUE.is("2 key 121, size 0", Edges.ILLEGAL_STATE, () -> x.put(0L, 0, 1));
        DUE.is("2 key 121, size 2", Edges.ILLEGAL_STATE, () -> x.put(Due.word(1, 0), 2, 1));
        DUE.is("2 key 121, size 8", Edges.ILLEGAL_STATE, () -> x.put(-1L, 8, 1));
        for (int n : Edges.WRONG_SIZES) {
            DUE.is("2 full and n " + n, Edges.ILLEGAL_ARGUMENT, () -> x.put(Due.word(2), n, 1));
        }
        for (int i : new int[] {0, 60, 119}) {
            DUE.is("2 full, key " + i + " has one", false, () -> x.put(Edges.fullKey(i), 1, -i));
            DUE.is("2 full, key " + i, -i, () -> x.get(Edges.fullKey(i), 1));
        }
        for (long w : places) {
            x.remove(Edges.fullKey(1), 1);
            DUE.is("2 key 120", true, () -> x.put(w, 1, 1));
            DUE.is("2 key 121 again", Edges.ILLEGAL_STATE, () -> x.put(Edges.fullKey(1), 1, 1));
            x.remove(w, 1);
            x.put(Edges.fullKey(1), 1, 3);
        }
        DUE.is("2 full still", 120, () -> x.size());
    }

    private static void promise3WrongSize() {
        ForkStore none = new ForkStore();
        ForkStore full = Edges.full();
        for (int n : Edges.WRONG_SIZES) {
            DUE.is("3 no keys and n " + n, Edges.ILLEGAL_ARGUMENT, () -> none.get(0L, n));
            DUE.is("3 n " + n, Edges.ILLEGAL_ARGUMENT, () -> full.get(Due.word(1), n));
        }
    }

    private static void promise3None() {
        ForkStore full = Edges.full();
        for (int i = 0; i < Edges.LIMIT; i++) {
            int k = i;
            DUE.is("3 key " + k, 2 * k + 1, () -> full.get(Edges.fullKey(k), 1));
            DUE.is("3 just before key " + k, Edges.NO_SUCH_ELEMENT, () -> full.get(Due.word(2 * k), 1));
        }
        DUE.is("3 just behind the last", Edges.NO_SUCH_ELEMENT, () -> full.get(Due.word(240), 1));
        DUE.is("3 the beginning of all", Edges.NO_SUCH_ELEMENT, () -> full.get(0L, 0));
        DUE.is("3 a key that one begins", Edges.NO_SUCH_ELEMENT, () -> full.get(Due.word(1), 2));
        full.remove(Due.word(1), 1);
        DUE.is("3 removed", Edges.NO_SUCH_ELEMENT, () -> full.get(Due.word(1), 1));
        ForkStore zeros = new ForkStore();
        zeros.put(0L, 4, 4);
        for (int i = 0; i <= 8; i++) {
            int n = i;
            DUE.is("3 zeros of size " + n, n == 4 ? 4 : Edges.NO_SUCH_ELEMENT, () -> zeros.get(0L, n));
        }
    }

    private static void promise4Refused() {
        ForkStore none = new ForkStore();
        ForkStore full = Edges.full();
        for (int n : Edges.WRONG_SIZES) {
            DUE.is("4 no keys and n " + n, false, () -> none.remove(0L, n));
            DUE.is("4 n " + n, false, () -> full.remove(Due.word(1), n));
        }
        for (int n = 0; n <= 8; n++) {
            int size = n;
            DUE.is("4 no keys, size " + n, false, () -> none.remove(0L, size));
            DUE.is("4 none of size " + n, false, () -> full.remove(Due.word(2), size));
        }
        DUE.is("4 one that a key begins", false, () -> full.remove(Due.word(1, 0), 2));
        DUE.is("4 just before all", false, () -> full.remove(Due.word(0), 1));
        DUE.is("4 just behind all", false, () -> full.remove(Due.word(240), 1));
        DUE.is("4 all are there", 120, () -> full.size());
    }

    private static void promise4AtTheEnds() {
        ForkStore x = Edges.full();
        for (int i : new int[] {119, 0, 60}) {
            DUE.is("4 key " + i, true, () -> x.remove(Edges.fullKey(i), 1));
            DUE.is("4 key " + i + " has none", Edges.NO_SUCH_ELEMENT, () -> x.get(Edges.fullKey(i), 1));
            DUE.is("4 key " + i + " once", false, () -> x.remove(Edges.fullKey(i), 1));
        }
        for (int i : new int[] {1, 59, 61, 118}) {
            DUE.is("4 its neighbour " + i, 2 * i + 1, () -> x.get(Edges.fullKey(i), 1));
        }
        DUE.is("4 three less", 117, () -> x.size());
    }

    private static void promise4AmongSizes() {
        for (int removed = 0; removed <= 8; removed++) {
            int gone = removed;
            ForkStore x = new ForkStore();
            for (int n = 0; n <= 8; n++) {
                x.put(0L, n, n);
            }
            DUE.is("4 zeros of size " + gone, true, () -> x.remove(0L, gone));
            for (int i = 0; i <= 8; i++) {
                int n = i;
                DUE.is("4 without size " + gone + ", size " + n, n == gone ? Edges.NO_SUCH_ELEMENT : n,
                    () -> x.get(0L, n));
            }
        }
    }

    private static void promise5NoneToAll() {
        ForkStore x = new ForkStore();
        for (int i = 0; i < Edges.LIMIT; i++) {
            int keys = i;
            DUE.is("5 going up", keys, () -> x.size());
            x.put(Edges.fullKey(i), 1, 0);
        }
        DUE.is("5 all", 120, () -> x.size());
        x.put(Edges.fullKey(7), 1, 1);
        DUE.is("5 another value is no key more", 120, () -> x.size());
        for (int i = Edges.LIMIT - 1; i >= 0; i--) {
            int keys = i;
            x.remove(Edges.fullKey(i), 1);
            DUE.is("5 going down", keys, () -> x.size());
        }
        x.remove(Edges.fullKey(0), 1);
        DUE.is("5 none, and none less", 0, () -> x.size());
    }

    private static void promise6Itself() {
        ForkStore full = Edges.full();
        DUE.is("6 all begin with the empty key", 120, () -> full.within(-1L, 0));
        DUE.is("6 itself", 1, () -> full.within(Due.word(239), 1));
        DUE.is("6 none", 0, () -> full.within(Due.word(240), 1));
        DUE.is("6 longer than a key", 0, () -> full.within(Due.word(239, 0), 2));
        ForkStore one = new ForkStore();
        one.put(0L, 0, 1);
        DUE.is("6 the empty key itself", 1, () -> one.within(0L, 0));
        DUE.is("6 the empty key begins with no zero", 0, () -> one.within(0L, 1));
        ForkStore x = new ForkStore();
        for (int i = 0; i < Edges.LIMIT; i++) {
            x.put(0x7FFF_FFFF_FFFF_FF00L + i, 8, i);
        }
        for (int i = 0; i <= 7; i++) {
            int n = i;
            DUE.is("6 all begin with " + n + " bytes", 120, () -> x.within(0x7FFF_FFFF_FFFF_FFFFL, n));
        }
        DUE.is("6 the last itself", 1, () -> x.within(0x7FFF_FFFF_FFFF_FF77L, 8));
        DUE.is("6 just behind it", 0, () -> x.within(0x7FFF_FFFF_FFFF_FF78L, 8));
    }

    private static void promise6WrongSize() {
        ForkStore full = Edges.full();
        full.remove(Due.word(1), 1);
        full.put(0L, 0, 0);
        for (int n : Edges.WRONG_SIZES) {
            DUE.is("6 n " + n, 0, () -> full.within(Due.word(3), n));
            DUE.is("6 nothing but zeros, n " + n, 0, () -> full.within(0L, n));
        }
    }

    private static void promise7AtTheEnds() {
        ForkStore full = Edges.full();
        DUE.is("7 the least of all keys", 0, () -> full.rank(-1L, 0));
        DUE.is("7 the greatest of all keys", 120, () -> full.rank(-1L, 8));
        for (int i = 0; i < Edges.LIMIT; i++) {
            int k = i;
            DUE.is("7 not itself, key " + k, k, () -> full.rank(Edges.fullKey(k), 1));
            DUE.is("7 just behind key " + k, k + 1, () -> full.rank(Edges.fullKey(k), 2));
        }
        ForkStore last = new ForkStore();
        last.put(-1L, 8, 1);
        last.put(0L, 0, 1);
        DUE.is("7 the empty key is not before itself", 0, () -> last.rank(0L, 0));
        DUE.is("7 the greatest is not before itself", 1, () -> last.rank(-1L, 8));
    }

    private static void promise7WrongSize() {
        ForkStore none = new ForkStore();
        ForkStore full = Edges.full();
        for (int n : Edges.WRONG_SIZES) {
            DUE.is("7 no keys and n " + n, ForkStore.NONE, () -> none.rank(0L, n));
            DUE.is("7 n " + n, ForkStore.NONE, () -> full.rank(-1L, n));
        }
    }

    private static void promise8SuchSizes() {
        ForkStore none = new ForkStore();
        ForkStore full = Edges.full();
        for (int i = 0; i < 4; i++) {
            int size = i;
            DUE.is("8 no keys, size " + size, 0, () -> none.forks(size));
            DUE.is("8 full, size " + size, size == 3 ? 1 : 0, () -> full.forks(size));
            DUE.is("8 full, size " + size + " again", size == 3 ? 1 : 0, () -> full.forks(size));
        }
        for (int size : Edges.WRONG_FORK_SIZES) {
            DUE.is("8 no keys, no size " + size, ForkStore.NONE, () -> none.forks(size));
            DUE.is("8 full, no size " + size, ForkStore.NONE, () -> full.forks(size));
        }
    }

    private static void promise9Itself() {
        ForkStore x = new ForkStore();
        for (int n = 8; n >= 0; n--) {
            x.put(-1L, n, n);
        }
        for (int i = 0; i <= 8; i++) {
            int n = i;
            DUE.is("9 forks at each size up to " + n, Math.min(n + 1, 8), () -> x.depth(-1L, n));
            DUE.is("9 only the empty row, size " + n, 1, () -> x.depth(0L, n));
        }
        x.remove(-1L, 8);
        DUE.is("9 the last is no fork any more", 7, () -> x.depth(-1L, 8));
        x.remove(-1L, 0);
        DUE.is("9 nor is the first", 6, () -> x.depth(-1L, 8));
        ForkStore full = Edges.full();
        DUE.is("9 full, the empty key", 1, () -> full.depth(0L, 0));
        DUE.is("9 full, a key", 1, () -> full.depth(Due.word(1), 1));
        DUE.is("9 full, behind all", 1, () -> full.depth(-1L, 8));
    }

    private static void promise9WrongSize() {
        ForkStore none = new ForkStore();
        ForkStore full = Edges.full();
        for (int n : Edges.WRONG_SIZES) {
            DUE.is("9 no keys and n " + n, ForkStore.NONE, () -> none.depth(0L, n));
            DUE.is("9 n " + n, ForkStore.NONE, () -> full.depth(Due.word(1), n));
        }
    }
}
