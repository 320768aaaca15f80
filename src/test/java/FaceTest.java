import java.lang.reflect.Constructor;
import java.lang.reflect.Field;
import java.lang.reflect.Method;
import java.lang.reflect.Modifier;
import java.util.Arrays;
import java.util.Set;
import java.util.TreeSet;

/** The class has just the face of the document: its public members, and no other that can be seen. */
public final class FaceTest {
    private static final String[] FACE = {
        "public LetterCounts()",
        "public static final int LetterCounts.NONE",
        "public int LetterCounts.rule(int,int,int,int,int) throws "
                + "java.lang.IllegalArgumentException,java.lang.IllegalStateException",
        "public void LetterCounts.clear()",
        "public int LetterCounts.height(int,int,int,int) throws java.lang.IllegalArgumentException",
        "public int LetterCounts.many(int) throws java.lang.IllegalArgumentException",
        "public int LetterCounts.count(int,int) throws "
                + "java.lang.IllegalArgumentException,java.lang.IndexOutOfBoundsException",
        "public int LetterCounts.derive(int,int,int,int) throws "
                + "java.lang.IllegalArgumentException,java.util.NoSuchElementException,"
                + "java.lang.UnsupportedOperationException",
        "public int LetterCounts.step(int) throws java.lang.IndexOutOfBoundsException",
        "public int LetterCounts.use(int,int) throws java.lang.IllegalArgumentException",
        "public int LetterCounts.fit(int) throws java.lang.IllegalArgumentException",
        "public int LetterCounts.letters(int) throws java.lang.IllegalArgumentException",
    };

    public static void main(String[] args) {
        Checks checks = new Checks();
        Set<String> seen = new TreeSet<>();
        Class<?> face = LetterCounts.class;
        for (Constructor<?> c : face.getDeclaredConstructors()) {
            addVisible(seen, c.getModifiers(), c.toString());
        }
        for (Field f : face.getDeclaredFields()) {
            addVisible(seen, f.getModifiers(), f.toString());
            boolean isStatic = Modifier.isStatic(f.getModifiers());
            checks.dueText(f + " is final if static", "true",
                    Boolean.toString(!isStatic || Modifier.isFinal(f.getModifiers())));
        }
        for (Method m : face.getDeclaredMethods()) {
            addVisible(seen, m.getModifiers(), m.toString());
        }
        checks.dueText("the face", new TreeSet<>(Arrays.asList(FACE)).toString(), seen.toString());
        dueOwnNames(checks, face);
        checks.dueText("the class", "public final", Modifier.toString(face.getModifiers()));
        checks.due("NONE", -1, () -> LetterCounts.NONE);
        checks.end();
    }

    /** No private method bears the name of a public one. */
    private static void dueOwnNames(Checks checks, Class<?> face) {
        Set<String> publicNames = new TreeSet<>();
        for (Method m : face.getMethods()) {
            publicNames.add(m.getName());
        }
        for (Method m : face.getDeclaredMethods()) {
            if (Modifier.isPrivate(m.getModifiers())) {
                checks.dueText(m + " has a name of its own", "true",
                        Boolean.toString(!publicNames.contains(m.getName())));
            }
        }
    }

    private static void addVisible(Set<String> seen, int modifiers, String text) {
        if (!Modifier.isPrivate(modifiers)) {
            seen.add(text);
        }
    }
}
