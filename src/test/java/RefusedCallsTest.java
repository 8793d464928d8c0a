import java.util.ArrayList;
import java.util.List;

/**
 * "What throws changes nothing", and what answers false, 0 or NONE for a refusal changes nothing
 * either: each such call is made on one of two objects made alike, and then all that can be asked
 * of them is asked of both.
 */
public final class RefusedCallsTest {
    /** How an object stands when the call is refused. */
    private enum State { NEW, SOME, FULL }

    private interface Call {
        Object on(ForkStore x);
    }

    private static final class Refused {
        private final String name;
        private final Object due;
        private final Call call;

        Refused(String name, Object due, Call call) {
            this.name = name;
            this.due = due;
            this.call = call;
        }
    }

    private static final Due DUE = new Due();

    public static void main(String[] args) {
        for (State state : State.values()) {
            List<String> asItWas = picture(made(state));
            for (Refused refused : refusedIn(state)) {
                lookAt(state, refused, asItWas);
            }
        }
        DUE.end();
    }

    private static void lookAt(State state, Refused refused, List<String> asItWas) {
        ForkStore x = made(state);
        String what = state + ", " + refused.name;
        DUE.is(what, refused.due, () -> refused.call.on(x));
        DUE.is(what + ", a second time", refused.due, () -> refused.call.on(x));
        DUE.is(what + ", and then", asItWas, () -> picture(x));
    }

    /** But for the new one: reader 0 stands on a key, reader 1 behind all, reader 2 is closed. */
    private static ForkStore made(State state) {
        if (state == State.NEW) {
            return new ForkStore();
        }
        ForkStore x = state == State.FULL ? Edges.full() : some();
        x.open(0);
        x.seek(0, Due.word(3), 1);
        x.open(1);
        x.seek(1, -1L, 8);
        x.open(2);
        x.next(2);
        x.close(2);
        // So that what the readers see and what is there now differ.
        x.put(Due.word(3), 1, 33);
        x.remove(Due.word(5), 1);
        x.put(Due.word(6), 1, 66);
        return x;
    }

    private static ForkStore some() {
        ForkStore x = new ForkStore();
        for (int b = 1; b < 12; b += 2) {
            x.put(Due.word(b), 1, b);
        }
        x.put(Due.word(3, 0), 2, 30);
        return x;
    }

    private static List<Refused> refusedIn(State state) {
        List<Refused> all = new ArrayList<>();
        addWrongSizes(all);
        addKeysWithoutValues(all);
        addWrongReaders(all);
        addClosedReaders(all, state == State.NEW ? new int[] {0, 1, 2} : new int[] {2});
        if (state != State.NEW) {
            add(all, "open 0", false, x -> x.open(0));
            add(all, "open 1", false, x -> x.open(1));
        }
        if (state == State.FULL) {
            addTooManyKeys(all);
        }
        for (int size : Edges.WRONG_FORK_SIZES) {
            add(all, "forks " + size, ForkStore.NONE, x -> x.forks(size));
        }
        return all;
    }

    private static void addWrongSizes(List<Refused> all) {
        long w = Due.word(3);
        for (int n : Edges.WRONG_SIZES) {
            add(all, "put, n " + n, Edges.ILLEGAL_ARGUMENT, x -> x.put(w, n, -9));
            add(all, "get, n " + n, Edges.ILLEGAL_ARGUMENT, x -> x.get(w, n));
            add(all, "remove, n " + n, false, x -> x.remove(w, n));
            add(all, "within, n " + n, 0, x -> x.within(w, n));
            add(all, "rank, n " + n, ForkStore.NONE, x -> x.rank(w, n));
            add(all, "depth, n " + n, ForkStore.NONE, x -> x.depth(w, n));
            for (int r = -1; r <= 3; r++) {
                int reader = r;
                add(all, "seek " + r + ", n " + n, Edges.ILLEGAL_ARGUMENT, x -> x.seek(reader, w, n));
            }
        }
    }

    private static void addKeysWithoutValues(List<Refused> all) {
        for (int n = 0; n <= 8; n++) {
            int size = n;
            add(all, "get, no such key of size " + n, Edges.NO_SUCH_ELEMENT, x -> x.get(Due.word(4), size));
            add(all, "remove, no such key of size " + n, false, x -> x.remove(Due.word(4), size));
        }
        add(all, "get, before all", Edges.NO_SUCH_ELEMENT, x -> x.get(0L, 0));
        add(all, "get, behind all", Edges.NO_SUCH_ELEMENT, x -> x.get(-1L, 8));
        add(all, "get, what a reader sees", Edges.NO_SUCH_ELEMENT, x -> x.get(Due.word(5), 1));
        add(all, "remove, before all", false, x -> x.remove(0L, 0));
        add(all, "remove, behind all", false, x -> x.remove(-1L, 8));
        add(all, "remove, what a reader sees", false, x -> x.remove(Due.word(5), 1));
    }

    private static void addWrongReaders(List<Refused> all) {
        for (int r : Edges.WRONG_READERS) {
            add(all, "open " + r, false, x -> x.open(r));
            addNotOpen(all, r);
        }
    }

    private static void addClosedReaders(List<Refused> all, int[] readers) {
        for (int r : readers) {
            addNotOpen(all, r);
        }
    }

    private static void addNotOpen(List<Refused> all, int r) {
        add(all, "close " + r, false, x -> x.close(r));
        add(all, "seek " + r, Edges.ILLEGAL_STATE, x -> x.seek(r, Due.word(3), 1));
        add(all, "next " + r, Edges.ILLEGAL_STATE, x -> x.next(r));
        add(all, "key " + r, 0L, x -> x.key(r));
        add(all, "length " + r, ForkStore.NONE, x -> x.length(r));
        add(all, "value " + r, 0, x -> x.value(r));
    }

    private static void addTooManyKeys(List<Refused> all) {
        add(all, "put, before all", Edges.ILLEGAL_STATE, x -> x.put(0L, 0, -9));
        add(all, "put, between", Edges.ILLEGAL_STATE, x -> x.put(Due.word(3, 0), 2, -9));
        add(all, "put, what a reader sees", Edges.ILLEGAL_STATE, x -> x.put(Due.word(5), 1, -9));
        add(all, "put, behind all", Edges.ILLEGAL_STATE, x -> x.put(-1L, 8, -9));
    }

    private static void add(List<Refused> all, String name, Object due, Call call) {
        all.add(new Refused(name, due, call));
    }

    /** All that can be asked, within the 512 calls that the document gives an object. */
    private static List<String> picture(ForkStore x) {
        List<String> seen = new ArrayList<>();
        for (int reader = 0; reader < 3; reader++) {
            seen.add("reader " + reader + " on " + x.key(reader) + " " + x.length(reader) + " " + x.value(reader));
        }
        seen.add("keys " + x.size());
        for (int size = 0; size < 4; size++) {
            seen.add("forks " + x.forks(size));
        }
        for (int n = 0; n < 3; n++) {
            seen.add("within " + x.within(Due.word(3), n) + ", depth " + x.depth(Due.word(3), n));
        }
        seen.add("before the greatest " + x.rank(-1L, 8));
        for (int reader = 0; reader < 2; reader++) {
            seen.add("reader " + reader + " goes on to " + steps(x, reader, 4));
            seen.add("and back to " + theLeast(x, reader));
            seen.add("closes " + x.close(reader));
        }
        // The third reader shows the keys as they are now.
        seen.add("opens " + x.open(2) + ", " + steps(x, 2, 125));
        return seen;
    }

    private static String theLeast(ForkStore x, int reader) {
        try {
            return x.seek(reader, 0L, 0) + " " + x.value(reader);
        } catch (IllegalStateException e) {
            return "not open";
        }
    }

    private static String steps(ForkStore x, int reader, int most) {
        StringBuilder values = new StringBuilder();
        try {
            for (int i = 0; i < most && x.next(reader); i++) {
                values.append(x.value(reader)).append(' ');
            }
        } catch (IllegalStateException e) {
            values.append("not open");
        }
        return values.toString();
    }
}
