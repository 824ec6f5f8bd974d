/** Promises 19 to 22: cut, down, open, told. */
final class DownTest {
    private static final int MERGE_CUT = -2000000;

    public static void main(String[] args) {
        cutPage();
        cutHead();
        cutMerge();
        cutCounts();
        cutWrong();
        downOnce();
        opens();
        openOlderHead();
        openPageOfAnother();
        openPageMissing();
        openKeysFall();
        openBadPage();
        toldThings();
        Check.end("DownTest");
    }

    private static void cutPage() {
        House x = new House(10);
        x.many(1, 40, 0, 1);
        x.cut(2, 4);
        Check.due("cut in the second page", x.flush(), 0);
        Check.due("down", x.told(7), 1);
        Check.due("written, the cut one too", x.told(3), 2);
        Check.dueSum("the first page is whole", x, 2, true);
        Check.due("a cut page begins", x.octet(3, 1), 1);
        Check.due("and the others stay", x.octet(3, 4), 0);
        Check.due("no head", x.octet(0, 3), 0);
        Check.due("generation", x.told(6), 1);
        Check.due("open", x.open(), 0);
        Check.due("the table is gone", x.told(1), 0);
        x.put(1, 1);
        Check.due("the same number again, not cut again", x.flush(), 1);
    }

    private static void cutHead() {
        int[] behind = {0, 3, 4, 60, 119};
        for (int k : behind) {
            House x = new House(10);
            x.put(1, 1);
            x.flush();
            x.put(2, 2);
            x.cut(2, k);
            Check.due("cut in the head", x.flush(), 0);
            Check.due("generation", x.told(6), 2);
            Check.due("octet 3", x.octet(1, 3), k > 3 ? 3 : 1);
            Check.due("open", x.open(), 1);
            Check.due("generation", x.told(6), 2);
            Check.due("the run before", x.get(-1, 1), 1);
            x.get(-1, 2);
            Check.due("not the cut one", x.state(), 0);
            Check.due("free", x.told(0), 7);
        }
    }

    private static void cutMerge() {
        House x = new House(10);
        x.put(1, 1);
        x.mark();
        x.put(2, 2);
        x.flush();
        x.put(3, 3);
        x.cut(1, 127);
        Check.due("cut in the page", x.merge(), MERGE_CUT);
        int[] told = {0, 0, 2, 5, 0, 0, 3, 1};
        for (int what = 0; what < 8; what++) {
            Check.due("told(" + what + ")", x.told(what), told[what]);
        }
        Check.due("open", x.open(), 2);
        Check.due("free", x.told(0), 6);
        x.cut(2, 100);
        Check.due("cut in the head", x.merge(), MERGE_CUT);
        Check.due("open", x.open(), 2);
        Check.due("nothing is lost", x.range(-1, 0, 9), 2);
    }

    private static void cutCounts() {
        House x = new House(20);
        x.cut(3, 0);
        x.put(1, 1);
        Check.due("two writes", x.flush(), 1);
        x.down();
        x.open();
        x.put(2, 2);
        Check.due("the third, behind down() and open()", x.flush(), 0);
        x.open();
        x.put(2, 2);
        x.cut(1, 0);
        x.cut(0, 127);
        Check.due("0: none", x.flush(), 2);
        x.put(3, 3);
        x.cut(1, 0);
        x.cut(3, 0);
        Check.due("the latest counts", x.flush(), 3);
        x.down();
        x.cut(1, 0);
        x.open();
        x.put(4, 4);
        Check.due("told when down", x.flush(), 0);
    }

    private static void cutWrong() {
        House x = new House(20);
        x.cut(1, 5);
        int[][] wrong = {{-1, 0}, {1001, 0}, {0, -1}, {0, 128}, {Integer.MIN_VALUE, 0}, {Integer.MAX_VALUE, 0},
            {1, Integer.MIN_VALUE}, {1, Integer.MAX_VALUE}};
        for (int[] w : wrong) {
            Check.argumentThrown("cut(" + w[0] + ", " + w[1] + ")", () -> x.cut(w[0], w[1]));
        }
        x.put(1, 1);
        Check.due("the one before stays", x.flush(), 0);
        Check.due("cut behind 5", x.octet(2, 4), 1);
        Check.due("cut behind 5", x.octet(2, 6), 0);
        x.cut(1000, 127);
        x.cut(0, 0);
    }

    private static void downOnce() {
        House x = new House(20);
        x.put(1, 1);
        x.mark();
        Check.due("down", x.down(), true);
        Check.due("it was", x.down(), false);
        Check.due("told", x.told(7), 1);
        Check.due("open", x.open(), 1);
        Check.due("not down", x.told(7), 0);
        Check.due("down again", x.down(), true);
    }

    private static void opens() {
        House x = new House(30);
        Check.stateThrown("not down", () -> x.open());
        x.many(1, 60, 0, 1);
        x.flush();
        x.many(3, 20, 0, 2);
        x.merge();
        x.mark();
        x.put(7, 7);
        int read = x.told(2);
        x.down();
        Check.due("open", x.open(), 2);
        Check.due("every page of the runs", x.told(2), read + 4);
        Check.due("no table", x.told(1), 0);
        Check.due("no marks", x.told(5), 0);
        Check.due("2 is 2 + 1", x.get(-1, 2), 3);
        Check.due("7 is what it was", x.get(-1, 7), 7);
        Check.due("all", x.range(-1, Long.MIN_VALUE, Long.MAX_VALUE), 60);
        x.put(100, 1);
        Check.due("the next number", x.flush(), 4);
        Check.due("generation", x.told(6), 5);
        x.down();
        x.poke(0, 0, 1);
        x.poke(1, 0, 1);
        Check.due("no head is right", x.open(), -1);
        Check.due("down still", x.told(7), 1);
        Check.due("generation", x.told(6), 5);
        House y = new House(5);
        y.poke(1, 50, 1);
        y.down();
        Check.due("page 0 has a right sum, but generation 0", y.open(), -1);
    }

    private static void openOlderHead() {
        House x = new House(30);
        x.put(1, 1);
        x.flush();
        x.put(1, 2);
        x.flush();
        x.poke(1, 20, 1);
        x.down();
        Check.due("the older head", x.open(), 1);
        Check.due("generation", x.told(6), 2);
        Check.due("what was then", x.get(-1, 1), 1);
        x.put(5, 5);
        Check.due("numbers go on from there", x.flush(), 2);
        Check.due("generations, too", x.told(6), 3);
        Check.duePage("the head is right again", x, 1, 0, 0, 0, 3, 0, 3, 2,
                0, 2, 0, 0, 3, 0, 1, 0, 1, 0, 0, 2, 0, 1);
    }

    private static void openPageOfAnother() {
        House x = new House(30);
        x.put(1, 1);
        x.flush();
        x.put(2, 2);
        x.flush();
        x.merge();
        x.put(3, 3);
        x.cut(2, 0);
        Check.due("run 4 is on page 2, its head is not written", x.flush(), 0);
        x.poke(0, 0, 1);
        int read = x.told(2);
        Check.due("page 2 was that of run 1", x.open(), -2 - 2);
        Check.due("page 3 and page 2 are read", x.told(2), read + 2);
        Check.due("down still", x.told(7), 1);
        Check.indexThrown("no runs", () -> x.run(0, 0));
        Check.due("no free pages", x.told(0), 0);
        Check.due("the same again", x.open(), -4);
    }

    /** A head of two pages, of which the first is written anew with none behind it. */
    private static void openPageMissing() {
        House x = new House(30);
        x.many(1, 40, 0, 1);
        x.flush();
        x.poke(0, 0, 1);
        x.down();
        Check.due("the head before it", x.open(), 0);
        x.put(5, 5);
        x.cut(2, 1);
        Check.due("cut behind the octet that was turned", x.flush(), 0);
        Check.dueSum("so the head is right", x, 0, true);
        Check.due("page 0 should be more of the run", x.open(), -2);
        Check.due("it counts as read", x.told(2), 2);
    }

    private static void openKeysFall() {
        for (long from : new long[] {100, -100}) {
            House x = new House(30);
            x.remove(0);
            x.flush();
            x.many(1, 40, 0, 1);
            x.flush();
            x.poke(1, 0, 1);
            x.down();
            Check.due("the head before it", x.open(), 1);
            x.many(1, 40, from, 1);
            x.cut(2, 0);
            Check.due("the first page alone is another", x.flush(), 0);
            Check.due("still the head before it", x.open(), 1);
            x.cut(1, 1);
            Check.due("a merge without entries mends the head", x.merge(), MERGE_CUT);
            int read = x.told(2);
            Check.due("keys from " + from, x.open(), from > 0 ? -2 - 4 : 2);
            Check.due("pages read", x.told(2), read + (from > 0 ? 2 : 3));
        }
    }

    private static void openBadPage() {
        House x = new House(30);
        x.many(1, 60, 0, 1);
        x.flush();
        x.put(9, 9);
        x.flush();
        x.poke(3, 127, 128);
        x.down();
        Check.due("page 3", x.open(), -2 - 3);
        Check.due("pages 5, 2, 3 are read", x.told(2), 3);
        Check.due("generation", x.told(6), 3);
        Check.stateThrown("still down", () -> x.flush());
    }

    private static void toldThings() {
        House x = new House(30);
        x.many(1, 60, 0, 1);
        x.flush();
        x.put(1, 1);
        x.mark();
        x.mark();
        x.get(-1, 1);
        x.put(2, 2);
        int[] up = {24, 1, 1, 6, 2, 2, 3, 0};
        int[] down = {0, 0, 1, 6, 0, 0, 3, 1};
        for (int what = 0; what < 8; what++) {
            Check.due("told(" + what + ")", x.told(what), up[what]);
        }
        x.down();
        for (int what = 0; what < 8; what++) {
            Check.due("down: told(" + what + ")", x.told(what), down[what]);
        }
        int[] wrong = {Integer.MIN_VALUE, -1, 8, Integer.MAX_VALUE};
        for (int what : wrong) {
            Check.indexThrown("told(" + what + ")", () -> x.told(what));
        }
    }
}
