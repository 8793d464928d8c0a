import java.util.NoSuchElementException;

/** For each promise of the document: ordinary inputs, the edges that it names, and wrong inputs. */
public final class PromisesTest {
    private static final Class<?> ILLEGAL_ARGUMENT = IllegalArgumentException.class;
    private static final Class<?> ILLEGAL_STATE = IllegalStateException.class;
    private static final Class<?> NO_SUCH_ELEMENT = NoSuchElementException.class;
    private static final int[] WRONG_SIZES = {-1, 9, Integer.MIN_VALUE, Integer.MAX_VALUE};
    private static final int[] WRONG_READERS = {-1, 3, Integer.MIN_VALUE, Integer.MAX_VALUE};

    private static final Due DUE = new Due();

    public static void main(String[] args) {
        promise1New();
        promise2Put();
        promise2PutAtTheLimit();
        promise3Get();
        promise4Remove();
        promise5Size();
        promise6Within();
        promise7Rank();
        promise8Forks();
        promise8ForksGrow();
        promise8ForksShrink();
        promise9Depth();
        promise10Open();
        promise11Close();
        promise12Seek();
        promise13Next();
        promises14To16Where();
        promises14To16WhatIsSeen();
        whatThrowsChangesNothing();
        DUE.end();
    }

    private static void promise1New() {
        ForkStore x = new ForkStore();
        DUE.is("1 size", 0, () -> x.size());
        DUE.is("1 within", 0, () -> x.within(0, 0));
        DUE.is("1 rank", 0, () -> x.rank(-1, 8));
        DUE.is("1 depth", 0, () -> x.depth(0, 0));
        DUE.is("1 get", NO_SUCH_ELEMENT, () -> x.get(0, 0));
        for (int size = 0; size < 4; size++) {
            int s = size;
            DUE.is("1 forks", 0, () -> x.forks(s));
        }
        for (int reader = 0; reader < 3; reader++) {
            int r = reader;
            DUE.is("1 close", false, () -> x.close(r));
            DUE.is("1 next", ILLEGAL_STATE, () -> x.next(r));
        }
        ForkStore y = new ForkStore();
        x.put(0, 0, 1);
        DUE.is("1 objects share nothing", 0, () -> y.size());
    }

    private static void promise2Put() {
        ForkStore x = new ForkStore();
        DUE.is("2 new", true, () -> x.put(Due.word(1, 2), 2, 7));
        DUE.is("2 again", false, () -> x.put(Due.word(1, 2), 2, 8));
        DUE.is("2 the later value", 8, () -> x.get(Due.word(1, 2), 2));
        DUE.is("2 other bits mean nothing", false, () -> x.put(Due.word(1, 2, 3, 4, 5, 6, 7, 8), 2, 9));
        DUE.is("2 their value", 9, () -> x.get(Due.word(1, 2), 2));
        DUE.is("2 the empty key", true, () -> x.put(-1L, 0, 0));
        DUE.is("2 the empty key is one", false, () -> x.put(5L, 0, -3));
        DUE.is("2 a zero behind", true, () -> x.put(0, 1, 1));
        DUE.is("2 eight zeros", true, () -> x.put(0, 8, 2));
        DUE.is("2 all eight bytes count", true, () -> x.put(1, 8, Integer.MIN_VALUE));
        DUE.is("2 the least int", Integer.MIN_VALUE, () -> x.get(1, 8));
        for (int n : WRONG_SIZES) {
            DUE.is("2 n " + n, ILLEGAL_ARGUMENT, () -> x.put(0, n, 0));
        }
        DUE.is("2 size", 5, () -> x.size());
    }

    private static void promise2PutAtTheLimit() {
        ForkStore x = new ForkStore();
        for (int i = 0; i < 120; i++) {
            int b = i;
            DUE.is("2 key " + i, true, () -> x.put(Due.word(b * 2), 1, b));
        }
        DUE.is("2 full", ILLEGAL_STATE, () -> x.put(Due.word(1), 1, 5));
        DUE.is("2 full, the empty key", ILLEGAL_STATE, () -> x.put(0, 0, 5));
        DUE.is("2 full, behind all", ILLEGAL_STATE, () -> x.put(-1, 8, 5));
        DUE.is("2 full and n 9", ILLEGAL_ARGUMENT, () -> x.put(0, 9, 5));
        DUE.is("2 full and n -1", ILLEGAL_ARGUMENT, () -> x.put(0, -1, 5));
        DUE.is("2 full, one that has a value", false, () -> x.put(Due.word(238), 1, -5));
        DUE.is("2 its value", -5, () -> x.get(Due.word(238), 1));
        DUE.is("2 full size", 120, () -> x.size());
        DUE.is("2 room again", true, () -> x.remove(Due.word(0), 1));
        DUE.is("2 put in it", true, () -> x.put(Due.word(1), 1, 5));
        DUE.is("2 full again", ILLEGAL_STATE, () -> x.put(Due.word(0), 1, 5));
    }

    private static void promise3Get() {
        ForkStore x = new ForkStore();
        x.put(Due.word(255, 0), 2, -1);
        x.put(Due.word(255), 1, 0);
        DUE.is("3 a key", -1, () -> x.get(Due.word(255, 0), 2));
        DUE.is("3 other bits mean nothing", -1, () -> x.get(Due.word(255, 0, 9), 2));
        DUE.is("3 the value 0", 0, () -> x.get(Due.word(255), 1));
        DUE.is("3 a longer one", NO_SUCH_ELEMENT, () -> x.get(Due.word(255, 0), 3));
        DUE.is("3 a shorter one", NO_SUCH_ELEMENT, () -> x.get(Due.word(255), 0));
        for (int n : WRONG_SIZES) {
            DUE.is("3 n " + n, ILLEGAL_ARGUMENT, () -> x.get(Due.word(255), n));
        }
    }

    private static void promise4Remove() {
        ForkStore x = new ForkStore();
        DUE.is("4 from none", false, () -> x.remove(0, 0));
        x.put(0, 0, 1);
        x.put(Due.word(3), 1, 2);
        x.put(Due.word(3, 0), 2, 3);
        x.put(Due.word(200), 1, 4);
        for (int n : WRONG_SIZES) {
            DUE.is("4 n " + n, false, () -> x.remove(Due.word(3), n));
        }
        DUE.is("4 a key without value", false, () -> x.remove(Due.word(3, 0), 3));
        DUE.is("4 in the middle", true, () -> x.remove(Due.word(3, 77), 1));
        DUE.is("4 once only", false, () -> x.remove(Due.word(3), 1));
        DUE.is("4 it has none", NO_SUCH_ELEMENT, () -> x.get(Due.word(3), 1));
        DUE.is("4 the one before", 1, () -> x.get(0, 0));
        DUE.is("4 the one behind", 3, () -> x.get(Due.word(3, 0), 2));
        DUE.is("4 the last", true, () -> x.remove(Due.word(200), 1));
        DUE.is("4 the first", true, () -> x.remove(-1, 0));
        DUE.is("4 the only one", true, () -> x.remove(Due.word(3, 0), 2));
        DUE.is("4 size", 0, () -> x.size());
    }

    private static void promise5Size() {
        ForkStore x = new ForkStore();
        x.put(Due.word(1), 1, 1);
        x.put(Due.word(2), 1, 1);
        x.put(Due.word(2), 1, 3);
        DUE.is("5 two", 2, () -> x.size());
        x.remove(Due.word(1), 1);
        x.remove(Due.word(1), 1);
        DUE.is("5 one", 1, () -> x.size());
    }

    private static void promise6Within() {
        ForkStore x = new ForkStore();
        x.put(0, 0, 1);
        x.put(Due.word(7), 1, 1);
        x.put(Due.word(7, 0), 2, 1);
        x.put(Due.word(7, 0, 5), 3, 1);
        x.put(Due.word(7, 0, 0, 0, 0, 0, 0, 255), 8, 1);
        x.put(Due.word(8), 1, 1);
        DUE.is("6 all", 6, () -> x.within(-1, 0));
        DUE.is("6 itself too", 4, () -> x.within(Due.word(7), 1));
        DUE.is("6 zeros are bytes", 3, () -> x.within(Due.word(7, 0), 2));
        DUE.is("6 other bits mean nothing", 3, () -> x.within(Due.word(7, 0, 9, 9), 2));
        DUE.is("6 a key without value", 1, () -> x.within(Due.word(7, 0, 0), 3));
        DUE.is("6 itself alone", 1, () -> x.within(Due.word(7, 0, 0, 0, 0, 0, 0, 255), 8));
        DUE.is("6 none", 0, () -> x.within(Due.word(7, 0, 0, 0, 0, 0, 0, 254), 8));
        DUE.is("6 not the shorter ones", 0, () -> x.within(Due.word(8, 0), 2));
        for (int n : WRONG_SIZES) {
            DUE.is("6 n " + n, 0, () -> x.within(0, n));
        }
    }

    private static void promise7Rank() {
        ForkStore x = new ForkStore();
        x.put(Due.word(127), 1, 1);
        x.put(Due.word(128), 1, 1);
        x.put(Due.word(128, 0), 2, 1);
        x.put(Due.word(255), 1, 1);
        DUE.is("7 before the empty key", 0, () -> x.rank(-1, 0));
        DUE.is("7 not itself", 0, () -> x.rank(Due.word(127), 1));
        DUE.is("7 bytes are 0 to 255", 1, () -> x.rank(Due.word(128), 1));
        DUE.is("7 behind the one it begins with", 2, () -> x.rank(Due.word(128, 0), 2));
        DUE.is("7 other bits mean nothing", 1, () -> x.rank(Due.word(128, 99), 1));
        DUE.is("7 without value", 3, () -> x.rank(Due.word(128, 0, 0), 3));
        DUE.is("7 all", 4, () -> x.rank(-1, 8));
        for (int n : WRONG_SIZES) {
            DUE.is("7 n " + n, -1, () -> x.rank(-1, n));
        }
    }

    private static void promise8Forks() {
        ForkStore x = new ForkStore();
        x.put(Due.word(1, 2, 3), 3, 1);
        DUE.is("8 one key", 0, () -> x.forks(0));
        x.put(Due.word(1, 2, 4), 3, 1);
        DUE.is("8 two that differ", 1, () -> x.forks(0));
        x.put(Due.word(1, 2), 2, 1);
        DUE.is("8 the fork itself", 1, () -> x.forks(0));
        x.put(Due.word(1), 1, 1);
        DUE.is("8 one ends, others go on", 2, () -> x.forks(0));
        x.put(Due.word(9), 1, 1);
        DUE.is("8 the empty row", 3, () -> x.forks(0));
        x.put(Due.word(9, 0, 0, 0, 0, 0, 0, 0), 8, 1);
        x.put(Due.word(9, 0, 0, 0, 0, 0, 0), 7, 1);
        DUE.is("8 a fork of seven bytes", 5, () -> x.forks(0));
        x.remove(Due.word(1), 1);
        DUE.is("8 a fork goes", 4, () -> x.forks(0));
        x.remove(Due.word(1, 2), 2);
        DUE.is("8 a fork stays", 4, () -> x.forks(0));
        DUE.is("8 larger ones", 0, () -> x.forks(1) + x.forks(2) + x.forks(3));
        DUE.is("8 size -1", -1, () -> x.forks(-1));
        DUE.is("8 size 4", -1, () -> x.forks(4));
        DUE.is("8 the least int", -1, () -> x.forks(Integer.MIN_VALUE));
        DUE.is("8 the greatest int", -1, () -> x.forks(Integer.MAX_VALUE));
    }

    private static void promise8ForksGrow() {
        ForkStore x = new ForkStore();
        // The key that ends at the fork is no branch of it.
        x.put(Due.word(50), 1, 0);
        for (int branches = 1; branches <= 60; branches++) {
            x.put(Due.word(50, branches * 4), 2, branches);
            lookAtOneFork(x, branches);
        }
    }

    private static void promise8ForksShrink() {
        ForkStore x = new ForkStore();
        for (int i = 0; i < 60; i++) {
            x.put(Due.word(50, i), 2, i);
        }
        for (int branches = 60; branches >= 2; branches--) {
            lookAtOneFork(x, branches);
            x.remove(Due.word(50, branches - 1), 2);
        }
        DUE.is("8 one branch alone is no fork", 0, () -> x.forks(0));
    }

    private static void lookAtOneFork(ForkStore x, int branches) {
        int due = branches <= 4 ? 0 : branches <= 16 ? 1 : branches <= 48 ? 2 : 3;
        for (int size = 0; size < 4; size++) {
            int s = size;
            DUE.is("8 forks(" + s + ") at " + branches + " branches", s == due ? 1 : 0, () -> x.forks(s));
        }
    }

    private static void promise9Depth() {
        ForkStore x = new ForkStore();
        x.put(Due.word(1, 2, 3), 3, 1);
        DUE.is("9 one key", 0, () -> x.depth(Due.word(1, 2, 3), 3));
        x.put(Due.word(1, 2, 4), 3, 1);
        x.put(Due.word(1, 2, 4, 0), 4, 1);
        x.put(Due.word(6), 1, 1);
        DUE.is("9 the empty key", 1, () -> x.depth(-1, 0));
        DUE.is("9 between forks", 1, () -> x.depth(Due.word(1), 1));
        DUE.is("9 itself too", 2, () -> x.depth(Due.word(1, 2), 2));
        DUE.is("9 other bits mean nothing", 2, () -> x.depth(Due.word(1, 2, 4, 0), 2));
        DUE.is("9 not the other fork", 2, () -> x.depth(Due.word(1, 2, 3), 3));
        DUE.is("9 three", 3, () -> x.depth(Due.word(1, 2, 4), 3));
        DUE.is("9 without value", 3, () -> x.depth(Due.word(1, 2, 4, 9, 9, 9, 9, 9), 8));
        DUE.is("9 beside all", 1, () -> x.depth(Due.word(200), 1));
        for (int n : WRONG_SIZES) {
            DUE.is("9 n " + n, -1, () -> x.depth(0, n));
        }
        ForkStore deep = new ForkStore();
        for (int n = 0; n <= 8; n++) {
            deep.put(0, n, n);
        }
        DUE.is("9 a fork at each length", 8, () -> deep.depth(0, 8));
        DUE.is("9 eight zeros are no fork", 8, () -> deep.depth(0, 7));
        DUE.is("9 the first of them", 1, () -> deep.depth(0, 0));
    }

    private static void promise10Open() {
        ForkStore x = new ForkStore();
        x.put(Due.word(5), 1, 50);
        for (int r : WRONG_READERS) {
            DUE.is("10 reader " + r, false, () -> x.open(r));
        }
        for (int reader = 0; reader < 3; reader++) {
            int r = reader;
            DUE.is("10 opens", true, () -> x.open(r));
            DUE.is("10 is open", false, () -> x.open(r));
            DUE.is("10 before all", -1, () -> x.length(r));
        }
        x.next(1);
        x.put(Due.word(6), 1, 60);
        DUE.is("10 open already", false, () -> x.open(1));
        DUE.is("10 stays where it is", Due.word(5), () -> x.key(1));
        DUE.is("10 and sees no more", false, () -> x.next(1));
        x.close(1);
        DUE.is("10 opens again", true, () -> x.open(1));
        DUE.is("10 before all again", 0L, () -> x.key(1));
        DUE.is("10 the least", true, () -> x.next(1));
        DUE.is("10 on it", Due.word(5), () -> x.key(1));
        DUE.is("10 and sees what is now", true, () -> x.next(1));
        DUE.is("10 which is", 60, () -> x.value(1));
        DUE.is("10 another one as it was", false, () -> x.seek(0, Due.word(6), 1));
    }

    private static void promise11Close() {
        ForkStore x = new ForkStore();
        x.put(Due.word(5), 1, 50);
        for (int r : WRONG_READERS) {
            DUE.is("11 reader " + r, false, () -> x.close(r));
        }
        DUE.is("11 never open", false, () -> x.close(2));
        x.open(2);
        x.open(0);
        x.next(2);
        DUE.is("11 closes", true, () -> x.close(2));
        DUE.is("11 closed already", false, () -> x.close(2));
        DUE.is("11 key", 0L, () -> x.key(2));
        DUE.is("11 length", -1, () -> x.length(2));
        DUE.is("11 value", 0, () -> x.value(2));
        DUE.is("11 next", ILLEGAL_STATE, () -> x.next(2));
        DUE.is("11 seek", ILLEGAL_STATE, () -> x.seek(2, 0, 0));
        DUE.is("11 another stays open", true, () -> x.next(0));
    }

    private static void promise12Seek() {
        ForkStore x = new ForkStore();
        x.put(Due.word(10), 1, 1);
        x.put(Due.word(10, 0), 2, 2);
        x.put(Due.word(200, 1), 2, 3);
        x.open(0);
        x.remove(Due.word(10, 0), 2);
        x.put(Due.word(100), 1, 4);
        DUE.is("12 the key itself", true, () -> x.seek(0, Due.word(10, 0), 2));
        DUE.is("12 on it", 2, () -> x.value(0));
        DUE.is("12 back", true, () -> x.seek(0, -1, 0));
        DUE.is("12 on the least", 1, () -> x.value(0));
        DUE.is("12 the next one behind", true, () -> x.seek(0, Due.word(10, 0, 0), 3));
        DUE.is("12 on the last", Due.word(200, 1), () -> x.key(0));
        DUE.is("12 other bits mean nothing", true, () -> x.seek(0, Due.word(10, 5), 1));
        DUE.is("12 on the first", 1, () -> x.length(0));
        DUE.is("12 none", false, () -> x.seek(0, Due.word(200, 1, 0), 3));
        DUE.is("12 behind all", -1, () -> x.length(0));
        DUE.is("12 stays behind", false, () -> x.next(0));
        DUE.is("12 from behind", true, () -> x.seek(0, Due.word(150), 1));
        for (int n : WRONG_SIZES) {
            DUE.is("12 n " + n, ILLEGAL_ARGUMENT, () -> x.seek(0, 0, n));
            DUE.is("12 not open and n " + n, ILLEGAL_ARGUMENT, () -> x.seek(1, 0, n));
        }
        DUE.is("12 not open", ILLEGAL_STATE, () -> x.seek(1, 0, 0));
        for (int r : WRONG_READERS) {
            DUE.is("12 reader " + r, ILLEGAL_STATE, () -> x.seek(r, 0, 8));
            DUE.is("12 n 9 and reader " + r, ILLEGAL_ARGUMENT, () -> x.seek(r, 0, 9));
        }
    }

    private static void promise13Next() {
        ForkStore x = new ForkStore();
        x.open(2);
        x.put(Due.word(255), 1, 4);
        x.put(Due.word(0), 1, 2);
        x.put(Due.word(0, 0), 2, 3);
        x.put(0, 0, 1);
        DUE.is("13 sees none", false, () -> x.next(2));
        DUE.is("13 sees none still", false, () -> x.next(2));
        x.open(1);
        for (int i = 1; i <= 4; i++) {
            DUE.is("13 goes on", true, () -> x.next(1));
            DUE.is("13 in order", i, () -> x.value(1));
        }
        DUE.is("13 behind all", false, () -> x.next(1));
        DUE.is("13 on none", -1, () -> x.length(1));
        DUE.is("13 still behind all", false, () -> x.next(1));
        x.seek(1, Due.word(0), 1);
        DUE.is("13 from where it sought", true, () -> x.next(1));
        DUE.is("13 the one behind", 3, () -> x.value(1));
        DUE.is("13 not open", ILLEGAL_STATE, () -> x.next(0));
        for (int r : WRONG_READERS) {
            DUE.is("13 reader " + r, ILLEGAL_STATE, () -> x.next(r));
        }
    }

    private static void promises14To16Where() {
        ForkStore x = new ForkStore();
        x.put(Due.word(255, 254, 253), 3, -7);
        lookAtNothing(x, "not open", 0);
        x.open(0);
        lookAtNothing(x, "before all", 0);
        x.next(0);
        DUE.is("14 on a key", Due.word(255, 254, 253), () -> x.key(0));
        DUE.is("15 on a key", 3, () -> x.length(0));
        DUE.is("16 on a key", -7, () -> x.value(0));
        x.next(0);
        lookAtNothing(x, "behind all", 0);
        x.seek(0, 0, 0);
        x.close(0);
        lookAtNothing(x, "closed", 0);
        for (int r : WRONG_READERS) {
            lookAtNothing(x, "no such reader", r);
        }
    }

    private static void lookAtNothing(ForkStore x, String where, int reader) {
        DUE.is("14 " + where, 0L, () -> x.key(reader));
        DUE.is("15 " + where, -1, () -> x.length(reader));
        DUE.is("16 " + where, 0, () -> x.value(reader));
    }

    private static void promises14To16WhatIsSeen() {
        ForkStore x = new ForkStore();
        x.put(-1, 0, 11);
        x.put(-1, 2, 12);
        x.put(-1, 8, 13);
        x.open(0);
        x.next(0);
        DUE.is("14 the empty key", 0L, () -> x.key(0));
        DUE.is("15 the empty key", 0, () -> x.length(0));
        DUE.is("16 the empty key", 11, () -> x.value(0));
        x.next(0);
        DUE.is("14 the others 0", Due.word(255, 255), () -> x.key(0));
        x.put(-1, 2, 99);
        DUE.is("16 the value that it saw", 12, () -> x.value(0));
        x.remove(-1, 2);
        DUE.is("14 the key that it saw", Due.word(255, 255), () -> x.key(0));
        DUE.is("15 the size that it saw", 2, () -> x.length(0));
        x.next(0);
        DUE.is("14 eight bytes", -1L, () -> x.key(0));
        DUE.is("15 eight bytes", 8, () -> x.length(0));
        DUE.is("16 eight bytes", 13, () -> x.value(0));
    }

    private static void whatThrowsChangesNothing() {
        ForkStore x = new ForkStore();
        for (int i = 0; i < 120; i++) {
            x.put(Due.word(i), 1, i);
        }
        x.open(0);
        x.seek(0, Due.word(60), 1);
        DUE.is("put throws", ILLEGAL_STATE, () -> x.put(Due.word(60, 1), 2, -1));
        DUE.is("put throws", ILLEGAL_ARGUMENT, () -> x.put(Due.word(60), 9, -1));
        DUE.is("seek throws", ILLEGAL_ARGUMENT, () -> x.seek(0, 0, 9));
        DUE.is("next throws", ILLEGAL_STATE, () -> x.next(1));
        DUE.is("the reader stays", 60, () -> x.value(0));
        DUE.is("size", 120, () -> x.size());
        DUE.is("forks", 1, () -> x.forks(3));
        for (int i = 0; i < 120; i++) {
            int b = i;
            DUE.is("key " + i, i, () -> x.get(Due.word(b), 1));
        }
    }
}
