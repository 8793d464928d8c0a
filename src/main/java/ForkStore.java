import java.util.NoSuchElementException;

/**
 * An ordered store of ints by keys of 0 to 8 bytes, with three readers that go on seeing what was
 * there when they opened.
 *
 * The keys stand in rows, in their order. The document leaves open how the state is held, and at
 * most 120 keys need no tree: every fork is the part in common of two neighbours in the rows.
 */
public final class ForkStore {
    public static final int NONE = -1;

    private static final int MOST_KEYS = 120;
    private static final int MOST_BYTES = 8;
    private static final int BITS_OF_A_BYTE = 8;
    private static final int READERS = 3;
    private static final int LARGEST_SIZE = 3;
    private static final int MOST_BRANCHES_OF_SIZE_0 = 4;
    private static final int MOST_BRANCHES_OF_SIZE_1 = 16;
    private static final int MOST_BRANCHES_OF_SIZE_2 = 48;
    private static final int BEFORE_ALL = -1;

    private final Keys keys;
    private final ForkCounter counter;
    private final Reader[] readers;

    public ForkStore() {
        keys = new Keys();
        counter = new ForkCounter();
        readers = new Reader[READERS];
        for (int i = 0; i < READERS; i++) {
            readers[i] = new Reader();
        }
    }

    public boolean put(long w, int n, int value) throws IllegalArgumentException, IllegalStateException {
        if (!isKeySize(n)) {
            throw new IllegalArgumentException("a key has 0 to 8 bytes");
        }
        long bytes = highestBytes(w, n);
        int place = keys.countBefore(bytes, n);
        if (keys.standsAt(place, bytes, n)) {
            keys.setNumber(place, value);
            return false;
        }
        if (keys.isFull()) {
            throw new IllegalStateException("120 keys have values");
        }
        keys.insert(place, bytes, n, value);
        return true;
    }

    public int get(long w, int n) throws IllegalArgumentException, NoSuchElementException {
        if (!isKeySize(n)) {
            throw new IllegalArgumentException("a key has 0 to 8 bytes");
        }
        long bytes = highestBytes(w, n);
        int place = keys.countBefore(bytes, n);
        if (!keys.standsAt(place, bytes, n)) {
            throw new NoSuchElementException("the key has no value");
        }
        return keys.numberAt(place);
    }

    public boolean remove(long w, int n) {
        if (!isKeySize(n)) {
            return false;
        }
        long bytes = highestBytes(w, n);
        int place = keys.countBefore(bytes, n);
        if (!keys.standsAt(place, bytes, n)) {
            return false;
        }
        keys.takeOut(place);
        return true;
    }

    public int size() {
        return keys.count();
    }

    public int within(long w, int n) {
        return isKeySize(n) ? keys.countBeginningWith(highestBytes(w, n), n) : 0;
    }

    public int rank(long w, int n) {
        return isKeySize(n) ? keys.countBefore(highestBytes(w, n), n) : NONE;
    }

    public int forks(int size) {
        if (size < 0 || size > LARGEST_SIZE) {
            return NONE;
        }
        return counter.countOfSize(keys, size);
    }

    public int depth(long w, int n) {
        return isKeySize(n) ? keys.countForksOnTheWayTo(highestBytes(w, n), n) : NONE;
    }

    public boolean open(int reader) {
        Reader found = readerOrNull(reader);
        if (found == null || found.isOpen()) {
            return false;
        }
        found.begin(keys);
        return true;
    }

    public boolean close(int reader) {
        Reader found = openReaderOrNull(reader);
        if (found == null) {
            return false;
        }
        found.end();
        return true;
    }

    public boolean seek(int reader, long w, int n) throws IllegalArgumentException, IllegalStateException {
        if (!isKeySize(n)) {
            throw new IllegalArgumentException("a key has 0 to 8 bytes");
        }
        Reader found = openReaderOrNull(reader);
        if (found == null) {
            throw new IllegalStateException("the reader is not open");
        }
        return found.goToOrBehind(highestBytes(w, n), n);
    }

    public boolean next(int reader) throws IllegalStateException {
        Reader found = openReaderOrNull(reader);
        if (found == null) {
            throw new IllegalStateException("the reader is not open");
        }
        return found.goOn();
    }

    public long key(int reader) {
        Reader found = openReaderOrNull(reader);
        return found == null ? 0L : found.bytesHere();
    }

    public int length(int reader) {
        Reader found = openReaderOrNull(reader);
        return found == null ? NONE : found.sizeHere();
    }

    public int value(int reader) {
        Reader found = openReaderOrNull(reader);
        return found == null ? 0 : found.numberHere();
    }

    private Reader readerOrNull(int reader) {
        return reader >= 0 && reader < readers.length ? readers[reader] : null;
    }

    private Reader openReaderOrNull(int reader) {
        Reader found = readerOrNull(reader);
        return found != null && found.isOpen() ? found : null;
    }

    private static boolean isKeySize(int n) {
        return n >= 0 && n <= MOST_BYTES;
    }

    private static long highestBytes(long w, int n) {
        // For no bytes the shift would be by 64, which Java takes for 0 and leaves every byte.
        return n == 0 ? 0L : w & (-1L << (BITS_OF_A_BYTE * (MOST_BYTES - n)));
    }

    private static int bytesInCommon(long a, int sizeOfA, long b, int sizeOfB) {
        int alike = Long.numberOfLeadingZeros(a ^ b) / BITS_OF_A_BYTE;
        return Math.min(alike, Math.min(sizeOfA, sizeOfB));
    }

    /**
     * Keys with their values, the least first. The bytes behind a key's end are 0 in its word, so
     * that words compare as unsigned numbers; two keys with the same word differ in zeros at the
     * end, and the shorter one begins the longer.
     */
    private static final class Keys {
        private final long[] words = new long[MOST_KEYS];
        private final int[] sizes = new int[MOST_KEYS];
        private final int[] numbers = new int[MOST_KEYS];
        private int count = 0;

        int count() {
            return count;
        }

        boolean isFull() {
            return count >= MOST_KEYS;
        }

        boolean isPlace(int place) {
            return place >= 0 && place < count;
        }

        boolean standsAt(int place, long word, int size) {
            return isPlace(place) && words[place] == word && sizes[place] == size;
        }

        long wordAt(int place) {
            return isPlace(place) ? words[place] : 0L;
        }

        int sizeAt(int place) {
            return isPlace(place) ? sizes[place] : NONE;
        }

        int numberAt(int place) {
            return isPlace(place) ? numbers[place] : 0;
        }

        void setNumber(int place, int number) {
            if (isPlace(place)) {
                numbers[place] = number;
            }
        }

        int countBefore(long word, int size) {
            for (int i = 0; i < count; i++) {
                int order = Long.compareUnsigned(words[i], word);
                if (order > 0 || (order == 0 && sizes[i] >= size)) {
                    return i;
                }
            }
            return count;
        }

        int countBeginningWith(long word, int size) {
            int found = 0;
            for (int i = 0; i < count; i++) {
                if (bytesInCommon(words[i], sizes[i], word, size) == size) {
                    found++;
                }
            }
            return found;
        }

        /** Neighbours differ, so their part in common is a fork: the answer is its length in bytes. */
        int forkBehind(int place) {
            if (!isPlace(place) || !isPlace(place + 1)) {
                return NONE;
            }
            return bytesInCommon(words[place], sizes[place], words[place + 1], sizes[place + 1]);
        }

        /** Forks that begin one key differ in their lengths, so a bit for each length counts them. */
        int countForksOnTheWayTo(long word, int size) {
            int lengths = 0;
            for (int i = 0; i + 1 < count; i++) {
                int fork = forkBehind(i);
                if (fork >= 0 && fork <= bytesInCommon(words[i], sizes[i], word, size)) {
                    lengths |= 1 << fork;
                }
            }
            return Integer.bitCount(lengths);
        }

        void insert(int place, long word, int size, int number) {
            if (isFull() || place < 0 || place > count) {
                return;
            }
            for (int i = count; i > place; i--) {
                words[i] = words[i - 1];
                sizes[i] = sizes[i - 1];
                numbers[i] = numbers[i - 1];
            }
            words[place] = word;
            sizes[place] = size;
            numbers[place] = number;
            count++;
        }

        void takeOut(int place) {
            if (!isPlace(place)) {
                return;
            }
            for (int i = place; i + 1 < count; i++) {
                words[i] = words[i + 1];
                sizes[i] = sizes[i + 1];
                numbers[i] = numbers[i + 1];
            }
            count--;
        }

        void copyFrom(Keys others) {
            for (int i = 0; i < others.count; i++) {
                words[i] = others.words[i];
                sizes[i] = others.sizes[i];
                numbers[i] = others.numbers[i];
            }
            count = others.count;
        }
    }

    /**
     * Counts forks in one walk over the keys. The forks round a place are parts of one another, so
     * one number of branches for each length is all that is under way at once.
     */
    private static final class ForkCounter {
        // A place for each length of a fork: 0 where none of that length is under way.
        private final int[] branches = new int[MOST_BYTES];

        int countOfSize(Keys keys, int size) {
            int found = 0;
            for (int i = 0; i + 1 < keys.count(); i++) {
                int fork = keys.forkBehind(i);
                found += endLongerThan(fork, size);
                addBranch(fork, keys.sizeAt(i) == fork);
            }
            return found + endLongerThan(NONE, size);
        }

        private void addBranch(int fork, boolean isKey) {
            if (fork < 0 || fork >= branches.length) {
                return;
            }
            // The first pair of a fork shows two branches, or one if the fork itself is a key.
            boolean showsTwo = branches[fork] == 0 && !isKey;
            branches[fork] += showsTwo ? 2 : 1;
        }

        private int endLongerThan(int fork, int size) {
            int found = 0;
            for (int i = Math.max(fork + 1, 0); i < branches.length; i++) {
                if (branches[i] > 0 && sizeOf(branches[i]) == size) {
                    found++;
                }
                branches[i] = 0;
            }
            return found;
        }

        private static int sizeOf(int branches) {
            if (branches <= MOST_BRANCHES_OF_SIZE_0) {
                return 0;
            }
            if (branches <= MOST_BRANCHES_OF_SIZE_1) {
                return 1;
            }
            return branches <= MOST_BRANCHES_OF_SIZE_2 ? 2 : LARGEST_SIZE;
        }
    }

    /** Keeps a copy of the keys as they were when it began; its rows are used again each time. */
    private static final class Reader {
        private final Keys seen = new Keys();
        private boolean isOpen = false;
        // BEFORE_ALL, a place among the keys, or their count: behind all.
        private int place = BEFORE_ALL;

        boolean isOpen() {
            return isOpen;
        }

        void begin(Keys now) {
            seen.copyFrom(now);
            place = BEFORE_ALL;
            isOpen = true;
        }

        void end() {
            isOpen = false;
        }

        boolean goToOrBehind(long word, int size) {
            place = seen.countBefore(word, size);
            return seen.isPlace(place);
        }

        boolean goOn() {
            place = Math.min(place + 1, seen.count());
            return seen.isPlace(place);
        }

        long bytesHere() {
            return seen.wordAt(place);
        }

        int sizeHere() {
            return seen.sizeAt(place);
        }

        int numberHere() {
            return seen.numberAt(place);
        }
    }
}
