import java.lang.reflect.Constructor;
import java.lang.reflect.Field;
import java.lang.reflect.Method;
import java.lang.reflect.Modifier;
import java.util.Set;
import java.util.TreeSet;

/** The public face: all of the document's, with the exceptions in their order, and nothing beside it. */
final class FaceTest {
    private static final String STATE = "IllegalStateException";
    private static final String INDEX = "IndexOutOfBoundsException";
    private static final String ARGUMENT = "IllegalArgumentException";
    private static final Set<String> FACE = Set.of(
            "int put(long, long) throws " + STATE,
            "int remove(long) throws " + STATE,
            "int fold(long, long) throws " + STATE,
            "int many(int, int, long, long) throws " + STATE + ", " + ARGUMENT,
            "int flush() throws " + STATE,
            "int merge() throws " + STATE,
            "int mark() throws " + STATE,
            "int release(int) throws " + STATE + ", " + INDEX,
            "long get(int, long) throws " + STATE + ", " + INDEX,
            "int state()",
            "int range(int, long, long) throws " + STATE + ", " + INDEX + ", " + ARGUMENT,
            "long at(int, int) throws " + INDEX,
            "int run(int, int) throws " + INDEX,
            "boolean hidden(long) throws " + STATE,
            "int octet(int, int) throws " + INDEX,
            "void poke(int, int, int) throws " + INDEX + ", " + STATE + ", " + ARGUMENT,
            "int badAt()",
            "void cut(int, int) throws " + ARGUMENT,
            "boolean down()",
            "int open() throws " + STATE,
            "int told(int) throws " + INDEX);

    public static void main(String[] args) {
        int kind = SortedRuns.class.getModifiers();
        Check.due("public and final", Modifier.isPublic(kind) && Modifier.isFinal(kind), true);
        Check.due("NONE", SortedRuns.NONE, -1);
        methods();
        for (Field f : SortedRuns.class.getDeclaredFields()) {
            boolean isPrivate = Modifier.isPrivate(f.getModifiers());
            Check.due("field " + f.getName(), isPrivate || f.getName().equals("NONE"), true);
        }
        Constructor<?>[] made = SortedRuns.class.getDeclaredConstructors();
        Check.due("constructors", made.length, 1);
        Check.due("constructor", made[0].toString(), "public SortedRuns(int)");
        for (Class<?> inside : SortedRuns.class.getDeclaredClasses()) {
            Check.due(inside.getName() + " is static", Modifier.isStatic(inside.getModifiers()), true);
        }
        Check.end("FaceTest");
    }

    private static void methods() {
        Set<String> open = new TreeSet<>();
        for (Method m : SortedRuns.class.getDeclaredMethods()) {
            if (!Modifier.isPrivate(m.getModifiers())) {
                open.add(told(m));
                boolean asOne = Modifier.isPublic(m.getModifiers()) && !Modifier.isStatic(m.getModifiers());
                Check.due(m.getName() + " is public, of an object", asOne, true);
            } else {
                for (String face : FACE) {
                    Check.due("private " + m.getName(), face.contains(" " + m.getName() + "("), false);
                }
            }
        }
        Check.due("the face", open.toString(), new TreeSet<>(FACE).toString());
    }

    private static String told(Method m) {
        StringBuilder text = new StringBuilder(m.getReturnType().getName());
        text.append(' ').append(m.getName()).append('(');
        for (int i = 0; i < m.getParameterCount(); i++) {
            text.append(i == 0 ? "" : ", ").append(m.getParameterTypes()[i].getName());
        }
        text.append(')');
        for (int i = 0; i < m.getExceptionTypes().length; i++) {
            text.append(i == 0 ? " throws " : ", ").append(m.getExceptionTypes()[i].getSimpleName());
        }
        return text.toString();
    }
}
