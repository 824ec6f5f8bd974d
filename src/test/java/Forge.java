import java.lang.reflect.Field;
import java.lang.reflect.Method;

/**
 * Lays octets on a page, with a right sum, past all calls. Runs of calls can do that too, with writes that are
 * cut piece upon piece until the sum fits (see ../shared/tests/Found*.java, and OpenEdgeTest), but heads take long
 * to find, and not all octets can be had.
 */
final class Forge {
    private Forge() {
    }

    /** False for a class that holds its pages in another way, which is free to it. */
    static boolean can() {
        for (Class<?> inside : SortedRuns.class.getDeclaredClasses()) {
            if (inside.getSimpleName().equals("Pages")) {
                return true;
            }
        }
        return false;
    }

    static void lay(House x, int page, int... first) {
        int[] whole = new int[128];
        System.arraycopy(first, 0, whole, 0, Math.min(120, first.length));
        Model.seal(whole, page);
        try {
            Field held = SortedRuns.class.getDeclaredField("pages");
            held.setAccessible(true);
            Object pages = held.get(x.runs);
            Field octets = pages.getClass().getDeclaredField("octets");
            octets.setAccessible(true);
            byte[] all = (byte[]) octets.get(pages);
            for (int i = 0; i < 128; i++) {
                all[page * 128 + i] = (byte) whole[i];
            }
            Method check = pages.getClass().getDeclaredMethod("checkSum", int.class);
            check.setAccessible(true);
            check.invoke(pages, page);
        } catch (ReflectiveOperationException e) {
            throw new AssertionError(e);
        }
    }
}
