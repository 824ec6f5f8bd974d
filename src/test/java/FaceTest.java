import java.lang.reflect.Constructor;
import java.lang.reflect.Field;
import java.lang.reflect.Method;
import java.lang.reflect.Modifier;
import java.util.Set;
import java.util.TreeSet;

/** The public face: all of the document's, and nothing beside it. */
final class FaceTest {
    private static final Set<String> FACE = Set.of(
            "int put(long, long)", "int remove(long)", "int fold(long, long)", "int many(int, int, long, long)",
            "int flush()", "int merge()", "int mark()", "int release(int)", "long get(int, long)", "int state()",
            "int range(int, long, long)", "long at(int, int)", "int run(int, int)", "boolean hidden(long)",
            "int octet(int, int)", "void poke(int, int, int)", "int badAt()", "void cut(int, int)",
            "boolean down()", "int open()", "int told(int)");

    public static void main(String[] args) {
        int kind = SortedRuns.class.getModifiers();
        Check.due("public and final", Modifier.isPublic(kind) && Modifier.isFinal(kind), true);
        Check.due("NONE", SortedRuns.NONE, -1);
        methods();
        for (Field f : SortedRuns.class.getDeclaredFields()) {
            boolean isPrivate = Modifier.isPrivate(f.getModifiers());
            Check.due("field " + f.getName(), isPrivate || f.getName().equals("NONE"), true);
        }
        Constructor<?>[] made = SortedRuns.class.getDeclaredConstructors();
        Check.due("constructors", made.length, 1);
        Check.due("constructor", made[0].toString(), "public SortedRuns(int)");
        for (Class<?> inside : SortedRuns.class.getDeclaredClasses()) {
            Check.due(inside.getName() + " is static", Modifier.isStatic(inside.getModifiers()), true);
        }
        Check.end("FaceTest");
    }

    private static void methods() {
        Set<String> open = new TreeSet<>();
        for (Method m : SortedRuns.class.getDeclaredMethods()) {
            if (!Modifier.isPrivate(m.getModifiers())) {
                open.add(told(m));
            } else {
                for (String face : FACE) {
                    Check.due("private " + m.getName(), face.contains(" " + m.getName() + "("), false);
                }
            }
        }
        Check.due("the face", open.toString(), new TreeSet<>(FACE).toString());
    }

    private static String told(Method m) {
        StringBuilder text = new StringBuilder(m.getReturnType().getName());
        text.append(' ').append(m.getName()).append('(');
        for (int i = 0; i < m.getParameterCount(); i++) {
            text.append(i == 0 ? "" : ", ").append(m.getParameterTypes()[i].getName());
        }
        return text.append(')').toString();
    }
}
