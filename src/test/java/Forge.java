import java.lang.reflect.Field;
import java.lang.reflect.Method;

/**
 * Lays octets on a page, with a right sum, past all calls. Runs of calls can do that too, with writes that are
 * cut piece upon piece until the sum fits (see ../shared/tests/Found*.java), but it takes long to find them.
 */
final class Forge {
    private Forge() {
    }

    static void lay(SortedRuns x, int page, int... first) {
        int[] whole = new int[128];
        System.arraycopy(first, 0, whole, 0, Math.min(120, first.length));
        Model.seal(whole, page);
        try {
            Field held = SortedRuns.class.getDeclaredField("pages");
            held.setAccessible(true);
            Object pages = held.get(x);
            Field octets = pages.getClass().getDeclaredField("octets");
            octets.setAccessible(true);
            byte[] all = (byte[]) octets.get(pages);
            for (int i = 0; i < 128; i++) {
                all[page * 128 + i] = (byte) whole[i];
            }
            Method check = pages.getClass().getDeclaredMethod("checkSum", int.class);
            check.setAccessible(true);
            check.invoke(pages, page);
        } catch (ReflectiveOperationException e) {
            throw new AssertionError(e);
        }
    }
}
