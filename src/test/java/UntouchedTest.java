import java.util.ArrayList;
import java.util.List;
import java.util.NoSuchElementException;

/**
 * What a call is not said to change stays as it was: a call that only asks leaves all of it, a call
 * about keys leaves what every reader sees and where it stands, and a call about one reader leaves
 * the keys and the other readers. Each object is set beside one made alike that did not get the call.
 */
public final class UntouchedTest {
    /** Where a reader stands when the call is made. */
    private enum Standing { CLOSED, BEFORE, ON, LAST, BEHIND }

    private interface Call {
        Object on(ForkStore x);
    }

    private static final int READERS = 3;
    // The keys that the store may hold, in their order; some of them have values only for the readers.
    private static final long[] WORDS = {0L, Due.word(0), Due.word(7), Due.word(7, 0), Due.word(7, 1), Due.word(7, 255),
        Due.word(8), Due.word(128, 1), Due.word(128, 2), Due.word(128, 2, 3), -1L};
    private static final int[] SIZES = {0, 1, 1, 2, 2, 2, 1, 2, 2, 3, 8};
    private static final int ADDED = 5;
    private static final int TAKEN = 3;
    private static final int CHANGED = 2;
    private static final int ABSENT = 6;

    private static final Due DUE = new Due();

    public static void main(String[] args) {
        for (int r = 0; r < READERS; r++) {
            for (Standing standing : Standing.values()) {
                callsThatAsk(r, standing);
                callsAboutKeys(r, standing);
                callsAboutAReader(r, standing);
            }
        }
        DUE.end();
    }

    /** Reader r stands as told, the one behind it on a key, and the third before all. */
    private static ForkStore made(int r, Standing standing) {
        ForkStore x = new ForkStore();
        for (int i = WORDS.length - 1; i >= 0; i--) {
            if (i != ADDED && i != ABSENT) {
                x.put(WORDS[i], SIZES[i], i * 10);
            }
        }
        stand(x, r, standing);
        stand(x, (r + 1) % READERS, Standing.ON);
        stand(x, (r + 2) % READERS, Standing.BEFORE);
        // So that what the readers see and what is there now differ.
        x.put(WORDS[ADDED], SIZES[ADDED], -5);
        x.remove(WORDS[TAKEN], SIZES[TAKEN]);
        x.put(WORDS[CHANGED], SIZES[CHANGED], -2);
        return x;
    }

    private static void stand(ForkStore x, int r, Standing standing) {
        x.open(r);
        switch (standing) {
            case CLOSED -> x.close(r);
            case ON -> x.seek(r, WORDS[TAKEN], SIZES[TAKEN]);
            case LAST -> x.seek(r, -1L, 8);
            case BEHIND -> {
                x.seek(r, -1L, 8);
                x.next(r);
            }
            default -> { }
        }
    }

    private static void callsThatAsk(int r, Standing standing) {
        List<String> parts = List.of("keys", "reader 0", "reader 1", "reader 2");
        look("size", r, standing, parts, x -> x.size());
        look("get", r, standing, parts, x -> x.get(WORDS[ADDED], SIZES[ADDED]));
        for (int i = 0; i < WORDS.length; i++) {
            long w = WORDS[i];
            int n = SIZES[i];
            look("within", r, standing, parts, x -> x.within(w, n));
            look("rank", r, standing, parts, x -> x.rank(w, n));
            look("depth", r, standing, parts, x -> x.depth(w, n));
        }
        for (int i = 0; i < 4; i++) {
            int size = i;
            look("forks", r, standing, parts, x -> x.forks(size));
        }
        look("key", r, standing, parts, x -> x.key(r));
        look("length", r, standing, parts, x -> x.length(r));
        look("value", r, standing, parts, x -> x.value(r));
    }

    private static void callsAboutKeys(int r, Standing standing) {
        List<String> parts = List.of("reader 0", "reader 1", "reader 2");
        for (int i = 0; i < WORDS.length; i++) {
            long w = WORDS[i];
            int n = SIZES[i];
            look("put", r, standing, parts, x -> x.put(w, n, 99));
            look("remove", r, standing, parts, x -> x.remove(w, n));
        }
        look("remove all", r, standing, parts, UntouchedTest::removeAll);
    }

    private static Object removeAll(ForkStore x) {
        for (int i = 0; i < WORDS.length; i++) {
            x.remove(WORDS[i], SIZES[i]);
        }
        return x.size();
    }

    private static void callsAboutAReader(int r, Standing standing) {
        List<String> parts = List.of("keys", "reader " + (r + 1) % READERS, "reader " + (r + 2) % READERS);
        if (standing == Standing.CLOSED) {
            look("open", r, standing, parts, x -> x.open(r));
            return;
        }
        look("close", r, standing, parts, x -> x.close(r));
        look("next", r, standing, parts, x -> x.next(r));
        for (int i = 0; i < WORDS.length; i++) {
            long w = WORDS[i];
            int n = SIZES[i];
            look("seek", r, standing, parts, x -> x.seek(r, w, n));
        }
    }

    private static void look(String call, int r, Standing standing, List<String> parts, Call made) {
        ForkStore x = made(r, standing);
        made.on(x);
        ForkStore twin = made(r, standing);
        for (String part : parts) {
            DUE.is(part + " after " + call + ", reader " + r + " " + standing, picture(part, twin),
                () -> picture(part, x));
        }
    }

    private static List<String> picture(String part, ForkStore x) {
        return part.equals("keys") ? ofKeys(x) : ofReader(x, part.charAt(part.length() - 1) - '0');
    }

    private static List<String> ofKeys(ForkStore x) {
        List<String> seen = new ArrayList<>();
        seen.add("size " + x.size());
        for (int size = 0; size < 4; size++) {
            seen.add("forks " + x.forks(size));
        }
        for (int i = 0; i < WORDS.length; i++) {
            long w = WORDS[i];
            int n = SIZES[i];
            seen.add(w + " " + n + " " + x.within(w, n) + " " + x.rank(w, n) + " " + x.depth(w, n) + valueOf(x, w, n));
        }
        return seen;
    }

    private static String valueOf(ForkStore x, long w, int n) {
        try {
            return " has " + x.get(w, n);
        } catch (NoSuchElementException e) {
            return " has none";
        }
    }

    /** Where it stands, what it sees from there on, and then all that it sees. */
    private static List<String> ofReader(ForkStore x, int r) {
        List<String> seen = new ArrayList<>();
        seen.add(here(x, r));
        try {
            addRest(seen, x, r);
            seen.add("least " + x.seek(r, 0L, 0) + " " + here(x, r));
            addRest(seen, x, r);
        } catch (IllegalStateException e) {
            seen.add("not open");
        }
        return seen;
    }

    private static void addRest(List<String> seen, ForkStore x, int r) {
        for (int i = 0; i <= WORDS.length && x.next(r); i++) {
            seen.add(here(x, r));
        }
        seen.add("no more");
    }

    private static String here(ForkStore x, int r) {
        return x.key(r) + " " + x.length(r) + " " + x.value(r);
    }
}
