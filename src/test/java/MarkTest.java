/** Promises 8, 9: mark and release. */
final class MarkTest {
    public static void main(String[] args) {
        numbers();
        marksKeepRuns();
        marksFlush();
        markRefused();
        markCut();
        releaseWrong();
        Check.end("MarkTest");
    }

    private static void numbers() {
        House x = new House(20);
        for (int i = 0; i < 8; i++) {
            Check.due("mark", x.mark(), i);
        }
        x.put(1, 1);
        Check.due("a ninth", x.mark(), SortedRuns.NONE);
        Check.due("no flush for it", x.told(1), 1);
        Check.due("marks", x.told(5), 8);
        Check.due("release", x.release(5), 0);
        Check.due("release", x.release(2), 0);
        Check.due("the least free one", x.mark(), 2);
        Check.due("that one flushed", x.told(1), 0);
        Check.due("the other", x.mark(), 5);
        Check.due("nothing as of mark 0", x.range(0, Long.MIN_VALUE, Long.MAX_VALUE), 0);
        Check.due("one as of mark 2", x.range(2, Long.MIN_VALUE, Long.MAX_VALUE), 1);
    }

    private static void marksKeepRuns() {
        House x = new House(20);
        x.put(1, 10);
        x.put(2, 20);
        Check.due("mark", x.mark(), 0);
        x.remove(1);
        x.fold(2, 5);
        Check.due("mark", x.mark(), 1);
        Check.due("merge: one page more, none free", x.merge(), -1);
        Check.due("free", x.told(0), 15);
        x.put(1, 99);
        Check.due("1 as of mark 0", x.get(0, 1), 10);
        Check.due("2 as of mark 0", x.get(0, 2), 20);
        Check.due("1 as of mark 1", x.get(1, 1), 0);
        Check.due("an END there", x.state(), 2);
        Check.due("2 as of mark 1", x.get(1, 2), 25);
        Check.due("1 now", x.get(-1, 1), 99);
        Check.due("mark 1 still has run 1", x.release(0), 0);
        Check.due("2 as of mark 1", x.get(1, 2), 25);
        Check.due("both pages are free", x.release(1), 2);
        Check.due("free", x.told(0), 17);
        Check.due("2 now", x.get(-1, 2), 25);
    }

    private static void marksFlush() {
        House x = new House(20);
        x.put(1, 1);
        Check.due("mark", x.mark(), 0);
        Check.due("flushed", x.told(4), 1);
        Check.due("written", x.told(3), 2);
        Check.due("mark", x.mark(), 1);
        Check.due("an empty table is not flushed", x.told(3), 2);
        Check.due("run 1 is of now", x.release(0), 0);
        Check.due("run 1 is of now", x.release(1), 0);
        Check.due("free", x.told(0), 17);
    }

    private static void markRefused() {
        House x = new House(20);
        for (int i = 0; i < 6; i++) {
            x.put(i, i);
            x.flush();
        }
        Check.due("six of level 0, empty table", x.mark(), 0);
        x.put(7, 7);
        Check.due("the flush can not be", x.mark(), SortedRuns.NONE);
        Check.due("marks", x.told(5), 1);
        House y = new House(4);
        y.many(1, 60, 0, 1);
        Check.due("too few pages", y.mark(), SortedRuns.NONE);
        Check.due("the table stays", y.told(1), 60);
    }

    private static void markCut() {
        House x = new House(20);
        x.mark();
        x.put(1, 1);
        x.cut(2, 10);
        Check.due("cut", x.mark(), -2);
        Check.due("down", x.told(7), 1);
        Check.due("marks are gone", x.told(5), 0);
        Check.stateThrown("mark down", () -> x.mark());
        Check.stateThrown("release down", () -> x.release(0));
        Check.stateThrown("release none, down", () -> x.release(77));
        x.open();
        Check.indexThrown("marks stay gone", () -> x.release(0));
    }

    private static void releaseWrong() {
        House x = new House(20);
        int[] wrong = {Integer.MIN_VALUE, -2, -1, 0, 7, 8, Integer.MAX_VALUE};
        for (int mark : wrong) {
            Check.indexThrown("release(" + mark + ")", () -> x.release(mark));
        }
        x.mark();
        x.release(0);
        Check.indexThrown("released already", () -> x.release(0));
    }
}
