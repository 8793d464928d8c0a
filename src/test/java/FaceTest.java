import java.lang.reflect.Constructor;
import java.lang.reflect.Field;
import java.lang.reflect.Member;
import java.lang.reflect.Method;
import java.lang.reflect.Modifier;
import java.util.Arrays;
import java.util.TreeSet;

/** The class has the document's public face, and nothing else that can be seen from outside. */
public final class FaceTest {
    private static final String[] FACE = {
        "public static final int ForkStore.NONE",
        "public ForkStore()",
        "public boolean ForkStore.put(long,int,int)"
            + " throws java.lang.IllegalArgumentException,java.lang.IllegalStateException",
        "public int ForkStore.get(long,int)"
            + " throws java.lang.IllegalArgumentException,java.util.NoSuchElementException",
        "public boolean ForkStore.remove(long,int)",
        "public int ForkStore.size()",
        "public int ForkStore.within(long,int)",
        "public int ForkStore.rank(long,int)",
        "public int ForkStore.forks(int)",
        "public int ForkStore.depth(long,int)",
        "public boolean ForkStore.open(int)",
        "public boolean ForkStore.close(int)",
        "public boolean ForkStore.seek(int,long,int)"
            + " throws java.lang.IllegalArgumentException,java.lang.IllegalStateException",
        "public boolean ForkStore.next(int) throws java.lang.IllegalStateException",
        "public long ForkStore.key(int)",
        "public int ForkStore.length(int)",
        "public int ForkStore.value(int)",
    };

    public static void main(String[] args) {
        TreeSet<String> seen = new TreeSet<>();
        for (Field field : ForkStore.class.getDeclaredFields()) {
            addIfSeen(seen, field, field.toGenericString());
        }
        for (Constructor<?> constructor : ForkStore.class.getDeclaredConstructors()) {
            addIfSeen(seen, constructor, constructor.toGenericString());
        }
        for (Method method : ForkStore.class.getDeclaredMethods()) {
            addIfSeen(seen, method, method.toGenericString());
        }
        Due due = new Due();
        due.is("what the class extends", Object.class, () -> ForkStore.class.getSuperclass());
        due.is("what the class implements", 0, () -> ForkStore.class.getInterfaces().length);
        due.is("private methods named as public ones", new TreeSet<String>(), FaceTest::namesOfBothKinds);
        due.is("the face", new TreeSet<>(Arrays.asList(FACE)), () -> seen);
        due.is("NONE", -1, () -> ForkStore.NONE);
        due.is("the class", "public final", () -> Modifier.toString(ForkStore.class.getModifiers()));
        for (Class<?> inside : ForkStore.class.getDeclaredClasses()) {
            int modifiers = inside.getModifiers();
            boolean hidden = !Modifier.isPublic(modifiers) && !Modifier.isProtected(modifiers);
            due.is(inside + " is hidden and static", true, () -> hidden && Modifier.isStatic(modifiers));
        }
        due.end();
    }

    /** LANGUAGE.md, rule 1: no private method bears the name of a public one. */
    private static TreeSet<String> namesOfBothKinds() {
        TreeSet<String> hidden = new TreeSet<>();
        TreeSet<String> seen = new TreeSet<>();
        for (Method method : ForkStore.class.getDeclaredMethods()) {
            (Modifier.isPrivate(method.getModifiers()) ? hidden : seen).add(method.getName());
        }
        hidden.retainAll(seen);
        return hidden;
    }

    private static void addIfSeen(TreeSet<String> seen, Member member, String text) {
        if (!Modifier.isPrivate(member.getModifiers())) {
            seen.add(text);
        }
    }
}
