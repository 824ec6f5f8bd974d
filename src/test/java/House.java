/**
 * A SortedRuns that is asked no more than the document promises answers for: 512 calls. A test that asks for more
 * is wrong itself, and is told so.
 */
final class House {
    static final int CALLS_MOST = 512;

    final SortedRuns runs;
    private int calls = 0;

    House(int pages) {
        runs = new SortedRuns(pages);
    }

    int callsLeft() {
        return CALLS_MOST - calls;
    }

    private SortedRuns asked() {
        calls++;
        if (calls > CALLS_MOST) {
            throw new AssertionError("this test makes more than 512 calls of one object");
        }
        return runs;
    }

    int put(long key, long value) {
        return asked().put(key, value);
    }

    int remove(long key) {
        return asked().remove(key);
    }

    int fold(long key, long value) {
        return asked().fold(key, value);
    }

    int many(int kind, int n, long from, long step) {
        return asked().many(kind, n, from, step);
    }

    int flush() {
        return asked().flush();
    }

    int merge() {
        return asked().merge();
    }

    int mark() {
        return asked().mark();
    }

    int release(int mark) {
        return asked().release(mark);
    }

    long get(int mark, long key) {
        return asked().get(mark, key);
    }

    int state() {
        return asked().state();
    }

    int range(int mark, long from, long to) {
        return asked().range(mark, from, to);
    }

    long at(int i, int what) {
        return asked().at(i, what);
    }

    int run(int i, int what) {
        return asked().run(i, what);
    }

    boolean hidden(long key) {
        return asked().hidden(key);
    }

    int octet(int page, int i) {
        return asked().octet(page, i);
    }

    void poke(int page, int i, int mask) {
        asked().poke(page, i, mask);
    }

    int badAt() {
        return asked().badAt();
    }

    void cut(int m, int k) {
        asked().cut(m, k);
    }

    boolean down() {
        return asked().down();
    }

    int open() {
        return asked().open();
    }

    int told(int what) {
        return asked().told(what);
    }
}
