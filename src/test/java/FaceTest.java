import java.lang.reflect.Constructor;
import java.lang.reflect.Field;
import java.lang.reflect.Method;
import java.lang.reflect.Modifier;
import java.util.Set;
import java.util.TreeSet;

/** The class shows the document's face and nothing else. */
public final class FaceTest {
    private static final Set<String> FACE = Set.of(
            "public static final int CellWorks.NONE",
            "public CellWorks()",
            "public int CellWorks.feed(int,int,int,int,int) throws java.lang.UnsupportedOperationException",
            "public void CellWorks.end(int) throws java.lang.IllegalArgumentException",
            "public int CellWorks.define()",
            "public int CellWorks.fault()",
            "public boolean CellWorks.remove() throws java.util.NoSuchElementException",
            "public int CellWorks.build() throws java.util.NoSuchElementException",
            "public int CellWorks.buildAll()",
            "public long CellWorks.value() throws java.util.NoSuchElementException",
            "public int CellWorks.state() throws java.util.NoSuchElementException",
            "public int CellWorks.readers(boolean) throws java.util.NoSuchElementException",
            "public int CellWorks.built(int,int) throws java.lang.IndexOutOfBoundsException",
            "public int CellWorks.count(int) throws java.lang.IllegalArgumentException");

    public static void main(String[] args) {
        Set<String> seen = new TreeSet<>();
        for (Field field : CellWorks.class.getDeclaredFields()) {
            note(seen, field.getModifiers(), field.toGenericString());
        }
        for (Method method : CellWorks.class.getDeclaredMethods()) {
            note(seen, method.getModifiers(), method.toGenericString());
        }
        for (Constructor<?> constructor : CellWorks.class.getDeclaredConstructors()) {
            note(seen, constructor.getModifiers(), constructor.toGenericString());
        }
        boolean right = seen.equals(FACE) && Modifier.isFinal(CellWorks.class.getModifiers());
        if (!right) {
            System.out.println("FaceTest: the face is " + seen + ", due is " + new TreeSet<>(FACE));
        }
        System.exit(right ? 0 : 1);
    }

    private static void note(Set<String> seen, int modifiers, String text) {
        if (!Modifier.isPrivate(modifiers)) {
            seen.add(text);
        }
    }
}
