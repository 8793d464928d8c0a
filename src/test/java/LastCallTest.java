/**
 * "An object is used for at most 512 calls": however the calls before it were spent, the last of
 * them is answered as the document says.
 */
public final class LastCallTest {
    private static final int CALLS = 512;
    private static final Due DUE = new Due();

    /** One object, and how many calls it has got. */
    private static final class Counted {
        private final ForkStore x = new ForkStore();
        private int calls = 0;

        void make(String what, Object due, Due.Call call) {
            calls++;
            DUE.is("call " + calls + ", " + what, due, call);
        }

        boolean hasRoomFor(int more) {
            return calls + more <= CALLS;
        }

        void fill() {
            for (int i = 0; i < Edges.LIMIT; i++) {
                int k = i;
                make("put", true, () -> x.put(Edges.fullKey(k), 1, k));
            }
        }

        void last(String what, Object due, Due.Call call) {
            while (hasRoomFor(2)) {
                calls++;
                x.size();
            }
            make(what, due, call);
        }
    }

    public static void main(String[] args) {
        valuesOverAndOver();
        keysComeAndGo();
        readersOpenAndClose();
        readersGoRound();
        askedOverAndOver();
        refusedOverAndOver();
        DUE.end();
    }

    private static void valuesOverAndOver() {
        Counted c = new Counted();
        c.make("put", true, () -> c.x.put(-1L, 8, 0));
        while (c.hasRoomFor(2)) {
            int value = c.calls;
            c.make("put again", false, () -> c.x.put(-1L, 8, value));
        }
        c.last("get", CALLS - 2, () -> c.x.get(-1L, 8));
    }

    private static void keysComeAndGo() {
        Counted c = new Counted();
        c.fill();
        for (int i = 0; i < Edges.LIMIT; i++) {
            int k = i;
            c.make("remove", true, () -> c.x.remove(Edges.fullKey(k), 1));
            c.make("put another", true, () -> c.x.put(Due.word(2 * k), 1, k));
            c.make("one too many", Edges.ILLEGAL_STATE, () -> c.x.put(-1L, 8, 0));
        }
        c.last("put, full", Edges.ILLEGAL_STATE, () -> c.x.put(-1L, 8, 0));
    }

    private static void readersOpenAndClose() {
        for (int reader = 0; reader < 3; reader++) {
            int r = reader;
            Counted c = new Counted();
            c.fill();
            for (int i = 0; c.hasRoomFor(8); i++) {
                int value = -i;
                c.make("put", false, () -> c.x.put(Edges.fullKey(0), 1, value));
                c.make("open", true, () -> c.x.open(r));
                c.make("next", true, () -> c.x.next(r));
                c.make("key", Edges.fullKey(0), () -> c.x.key(r));
                c.make("length", 1, () -> c.x.length(r));
                c.make("value", value, () -> c.x.value(r));
                c.make("close", true, () -> c.x.close(r));
            }
            c.last("open", true, () -> c.x.open(r));
        }
    }

    private static void readersGoRound() {
        Counted c = new Counted();
        c.fill();
        c.make("open", true, () -> c.x.open(1));
        while (c.hasRoomFor(Edges.LIMIT + 3)) {
            c.make("seek", true, () -> c.x.seek(1, 0L, 0));
            for (int i = 1; i < Edges.LIMIT; i++) {
                c.make("next", true, () -> c.x.next(1));
            }
            c.make("next, behind all", false, () -> c.x.next(1));
        }
        c.last("seek", true, () -> c.x.seek(1, Edges.fullKey(119), 1));
    }

    private static void askedOverAndOver() {
        Counted c = new Counted();
        c.fill();
        while (c.hasRoomFor(7)) {
            c.make("forks", 1, () -> c.x.forks(3));
            c.make("forks", 0, () -> c.x.forks(0));
            c.make("depth", 1, () -> c.x.depth(-1L, 8));
            c.make("within", 120, () -> c.x.within(0L, 0));
            c.make("rank", 120, () -> c.x.rank(-1L, 8));
            c.make("get", 119, () -> c.x.get(Edges.fullKey(119), 1));
        }
        c.last("forks", 1, () -> c.x.forks(3));
    }

    private static void refusedOverAndOver() {
        Counted c = new Counted();
        while (c.hasRoomFor(8)) {
            c.make("put, n 9", Edges.ILLEGAL_ARGUMENT, () -> c.x.put(0L, 9, 1));
            c.make("get", Edges.NO_SUCH_ELEMENT, () -> c.x.get(0L, 0));
            c.make("remove", false, () -> c.x.remove(0L, 0));
            c.make("open 3", false, () -> c.x.open(3));
            c.make("close 0", false, () -> c.x.close(0));
            c.make("seek 0", Edges.ILLEGAL_STATE, () -> c.x.seek(0, 0L, 0));
            c.make("next 0", Edges.ILLEGAL_STATE, () -> c.x.next(0));
        }
        c.last("put", true, () -> c.x.put(0L, 0, 1));
    }
}
