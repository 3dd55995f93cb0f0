import java.lang.reflect.Constructor;
import java.lang.reflect.Field;
import java.lang.reflect.Method;
import java.lang.reflect.Modifier;
import java.util.Arrays;
import java.util.Set;
import java.util.TreeSet;

/** The public face is the document's and no more, and private methods keep clear of its names. */
final class FaceTest {
    private static final Set<String> FACE = new TreeSet<>(Arrays.asList(
        "public static final int SplitStore.NONE",
        "public static final int SplitStore.FULL",
        "public SplitStore()",
        "public boolean SplitStore.start(int,int,int,int)",
        "public int SplitStore.step(int)",
        "public int SplitStore.run(int,int)",
        "public int SplitStore.result(int) throws java.util.NoSuchElementException",
        "public int SplitStore.process(int,int) throws java.util.NoSuchElementException",
        "public int SplitStore.node(int,int) throws java.util.NoSuchElementException",
        "public int SplitStore.bucket(int)",
        "public int SplitStore.total(int)"));

    public static void main(String[] args) {
        int modifiers = SplitStore.class.getModifiers();
        Check.holds("the class is public and final", Modifier.isPublic(modifiers) && Modifier.isFinal(modifiers));
        Set<String> seen = visibleMembers();
        Check.holds("the face is " + FACE + " and was " + seen, seen.equals(FACE));
        Check.same("NONE", SplitStore.NONE, -1);
        Check.same("FULL", SplitStore.FULL, -2);
        privateNames();
        staticFields();
        Check.finish();
    }

    private static Set<String> visibleMembers() {
        Set<String> seen = new TreeSet<>();
        for (Field f : SplitStore.class.getDeclaredFields()) {
            if (!Modifier.isPrivate(f.getModifiers())) seen.add(f.toGenericString());
        }
        for (Constructor<?> c : SplitStore.class.getDeclaredConstructors()) {
            if (!Modifier.isPrivate(c.getModifiers())) seen.add(c.toGenericString());
        }
        for (Method m : SplitStore.class.getDeclaredMethods()) {
            if (!Modifier.isPrivate(m.getModifiers())) seen.add(m.toGenericString());
        }
        return seen;
    }

    private static void privateNames() {
        Set<String> names = new TreeSet<>();
        for (Method m : SplitStore.class.getDeclaredMethods()) {
            if (Modifier.isPublic(m.getModifiers())) names.add(m.getName());
        }
        for (Method m : SplitStore.class.getDeclaredMethods()) {
            if (!Modifier.isPublic(m.getModifiers())) {
                Check.refused("the name " + m.getName() + " is the face's", names.contains(m.getName()));
            }
        }
        for (Class<?> inside : SplitStore.class.getDeclaredClasses()) {
            Check.holds(inside + " is static", Modifier.isStatic(inside.getModifiers()));
            Check.refused(inside + " is public", Modifier.isPublic(inside.getModifiers()));
        }
    }

    private static void staticFields() {
        for (Field f : SplitStore.class.getDeclaredFields()) {
            if (Modifier.isStatic(f.getModifiers())) {
                Check.holds(f + " is final", Modifier.isFinal(f.getModifiers()));
            }
        }
    }
}
