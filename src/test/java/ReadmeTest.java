/** The example in README.md answers what README.md says: its lines stand here in their order. */
public final class ReadmeTest {
    private static final Due DUE = new Due();

    public static void main(String[] args) {
        ForkStore store = new ForkStore();
        DUE.is("the key 1 2 3", true, () -> store.put(0x0102_0300_0000_0000L, 3, 5));
        DUE.is("the key 1 2 4", true, () -> store.put(0x0102_0400_0000_0000L, 3, 6));
        DUE.is("get", 6, () -> store.get(0x0102_0400_0000_0000L, 3));
        DUE.is("within", 2, () -> store.within(0x0100_0000_0000_0000L, 1));
        DUE.is("rank", 1, () -> store.rank(0x0102_0400_0000_0000L, 3));
        DUE.is("forks", 1, () -> store.forks(0));
        DUE.is("depth", 1, () -> store.depth(0x0102_0300_0000_0000L, 3));

        DUE.is("open", true, () -> store.open(0));
        DUE.is("remove", true, () -> store.remove(0x0102_0300_0000_0000L, 3));
        DUE.is("size", 1, () -> store.size());
        DUE.is("next", true, () -> store.next(0));
        DUE.is("key", 0x0102_0300_0000_0000L, () -> store.key(0));
        DUE.is("length", 3, () -> store.length(0));
        DUE.is("value", 5, () -> store.value(0));
        DUE.is("seek", false, () -> store.seek(0, 0x0103_0000_0000_0000L, 2));
        DUE.is("close", true, () -> store.close(0));
        DUE.end();
    }
}
