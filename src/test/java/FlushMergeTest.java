/** Promises 6, 7: flush and merge, and the octets of pages and heads. */
final class FlushMergeTest {
    private static final int REFUSED = -1000000;

    public static void main(String[] args) {
        flushWrites();
        values();
        severalPages();
        exactFit();
        flushRefused();
        mergeFolds();
        mergeKeepsEnds();
        mergeToNothing();
        mergeRefused();
        mergeBad();
        mergeLevels();
        mergeLimits();
        mergeCountsWithoutEnds();
        leastPages();
        Check.end("FlushMergeTest");
    }

    private static void flushWrites() {
        House x = new House(10);
        x.put(258, 3);
        x.put(-2, -3);
        x.remove(259);
        Check.due("flush", x.flush(), 1);
        Check.duePage("run 1", x, 2, 0, 1, 0, 0, 3,
                0, 127, 255, 255, 255, 255, 255, 255, 254, 1, 5,
                0, 128, 0, 0, 0, 0, 0, 1, 2, 1, 6,
                7, 3, 2);
        Check.duePage("generation 2", x, 0, 0, 0, 0, 2, 0, 2, 1, 0, 1, 0, 0, 2, 0, 1);
        Check.due("free", x.told(0), 7);
        Check.due("table", x.told(1), 0);
        Check.due("written", x.told(3), 2);
        Check.due("generation", x.told(6), 2);
        x.fold(1, 1);
        Check.due("flush", x.flush(), 2);
        Check.duePage("generation 3", x, 1, 0, 0, 0, 3, 0, 3, 2,
                0, 2, 0, 0, 3, 0, 1, 0, 1, 0, 0, 2, 0, 1);
        Check.dueOctets("generation 2 stays", x, 0, 0, 0, 0, 0, 2, 0, 2, 1, 0, 1, 0, 0, 2, 0, 1);
    }

    private static void values() {
        House x = new House(10);
        long[] values = {0, -1, 63, -64, 64, -65, 8191, 8192};
        for (int i = 0; i < values.length; i++) {
            x.put(i, values[i]);
        }
        x.flush();
        Check.duePage("small", x, 2, 0, 1, 0, 0, 8,
                0, 128, 0, 0, 0, 0, 0, 0, 0, 1, 0,
                7, 1, 1, 1, 7, 2, 1, 126, 7, 3, 1, 127, 7, 4, 1, 128, 1, 7, 5, 1, 129, 1,
                7, 6, 1, 254, 127, 7, 7, 1, 128, 128, 1);
        x.put(0, Long.MAX_VALUE);
        x.put(1, Long.MIN_VALUE);
        x.flush();
        Check.duePage("great", x, 3, 0, 2, 0, 0, 2,
                0, 128, 0, 0, 0, 0, 0, 0, 0, 1, 254, 255, 255, 255, 255, 255, 255, 255, 255, 1,
                7, 1, 1, 255, 255, 255, 255, 255, 255, 255, 255, 255, 1);
        Check.due("greatest", x.get(-1, 0), Long.MAX_VALUE);
        Check.due("least", x.get(-1, 1), Long.MIN_VALUE);
    }

    private static void severalPages() {
        House x = new House(10);
        x.many(1, 60, 0, 1);
        Check.due("flush", x.flush(), 1);
        // 11 octets for the first of a page, 4 for the others: 27 into 115.
        Check.due("pages", x.run(0, 2), 3);
        int[] counts = {27, 27, 6};
        for (int p = 0; p < 3; p++) {
            Check.due("entries of page " + p, x.octet(2 + p, 4), counts[p]);
            Check.due("next of page " + p, x.octet(2 + p, 3), p < 2 ? 3 + p : 0);
            Check.due("shared by the first", x.octet(2 + p, 5), 0);
            Check.due("its last octet", x.octet(2 + p, 13), 27 * p);
        }
        Check.due("no octet is left", x.octet(2, 119), 52);
    }

    private static void exactFit() {
        House x = new House(10);
        // 10 octets and then 3 for each END: 36 fill 115 octets to the last.
        x.many(2, 36, 0, 1);
        x.flush();
        Check.due("36 ENDs, one page", x.run(0, 2), 1);
        Check.due("the last octet", x.octet(2, 119), 2);
        x.many(2, 37, 0, 1);
        x.flush();
        Check.due("37 ENDs, two pages", x.run(0, 2), 2);
    }

    private static void flushRefused() {
        House x = new House(20);
        Check.due("no entries", x.flush(), SortedRuns.NONE);
        for (int i = 1; i <= 6; i++) {
            x.put(i, i);
            Check.due("flush " + i, x.flush(), i);
        }
        x.put(7, 7);
        Check.due("six of level 0", x.flush(), SortedRuns.NONE);
        Check.due("the table stays", x.told(1), 1);
        Check.due("nothing written", x.told(3), 12);
        House y = new House(4);
        y.many(1, 60, 0, 1);
        Check.due("too few free pages", y.flush(), SortedRuns.NONE);
        Check.due("nothing written", y.told(3), 0);
        y.down();
        Check.stateThrown("flush down", () -> y.flush());
        Check.stateThrown("merge down", () -> y.merge());
    }

    private static void mergeFolds() {
        House x = new House(20);
        Check.due("nothing of level 0", x.merge(), REFUSED);
        x.put(1, 10);
        x.put(2, 20);
        x.remove(3);
        x.fold(4, 40);
        x.put(6, 60);
        x.flush();
        x.fold(1, 1);
        x.fold(3, 3);
        x.fold(4, 4);
        x.fold(5, 5);
        x.remove(6);
        x.flush();
        x.fold(1, 100);
        x.remove(2);
        x.fold(6, 6);
        x.flush();
        Check.due("three pages go, one comes", x.merge(), 2);
        Check.due("read", x.told(2), 3);
        Check.due("one run", x.told(4), 1);
        Check.due("number", x.run(0, 0), 4);
        Check.due("level", x.run(0, 1), 1);
        Check.duePage("folded", x, 5, 0, 4, 0, 0, 5,
                0, 128, 0, 0, 0, 0, 0, 0, 1, 1, 222, 1,
                7, 3, 1, 6, 7, 4, 1, 88, 7, 5, 1, 10, 7, 6, 1, 12);
        Check.duePage("head", x, 1, 0, 0, 0, 5, 0, 5, 1, 0, 4, 1, 0, 5, 0, 1);
        Check.due("only level 1", x.merge(), REFUSED);
        Check.due("nothing read for that", x.told(2), 3);
    }

    /** Four runs of 64 keys, 3 pages each, which become 10 pages when merged. */
    private static void fourRuns(House x, long from) {
        for (int i = 0; i < 4; i++) {
            x.many(1, 64, from + 64 * i, 1);
            x.flush();
            Check.due("pages", x.run(0, 2), 3);
        }
    }

    private static void mergeKeepsEnds() {
        House x = new House(60);
        fourRuns(x, 0);
        Check.due("12 pages become 10", x.merge(), 2);
        Check.due("more than 8: level 2", x.run(0, 1), 2);
        x.remove(1);
        x.fold(2, 5);
        x.flush();
        x.fold(3, 1);
        x.remove(1);
        x.flush();
        Check.due("merge above level 2", x.merge(), 1);
        Check.due("level 1", x.run(0, 1), 1);
        Check.due("the END and both ADDs stay", x.run(0, 3), 3);
        Check.due("kind of 1", x.octet(x.run(0, 4), 14), 2);
        Check.due("kind of 2", x.octet(x.run(0, 4), 17), 3);
        Check.due("2 is 2 + 5", x.get(-1, 2), 7);
        x.get(-1, 1);
        Check.due("1 is ended", x.state(), 2);
    }

    private static void mergeToNothing() {
        House x = new House(20);
        x.put(1, 1);
        x.flush();
        x.remove(1);
        x.flush();
        Check.due("both pages are free", x.merge(), 2);
        Check.due("no run", x.told(4), 0);
        Check.due("only the head was written", x.told(3), 5);
        Check.duePage("head without a new number", x, 0, 0, 0, 0, 4, 0, 3, 0);
        x.put(1, 1);
        Check.due("no number was used", x.flush(), 3);
    }

    private static void mergeRefused() {
        House x = new House(5);
        x.many(1, 27, 0, 1);
        x.flush();
        x.many(1, 27, 100, 1);
        x.flush();
        // Two pages are needed, one is free: those taken do not count as free.
        Check.due("too few", x.merge(), REFUSED);
        Check.due("read all the same", x.told(2), 2);
        Check.due("runs stay", x.told(4), 2);
        Check.due("nothing written", x.told(3), 4);
        Check.due("free", x.told(0), 1);
        x.put(0, 0);
        Check.due("the number is still there", x.flush(), 3);
    }

    private static void mergeBad() {
        House x = new House(30);
        x.many(1, 60, 0, 1);
        x.flush();
        x.many(1, 60, 0, 1);
        x.flush();
        x.poke(6, 127, 1);
        Check.due("bad", x.merge(), REFUSED);
        Check.due("read up to the bad one", x.told(2), 2);
        Check.due("runs stay", x.told(4), 2);
    }

    private static void mergeLevels() {
        House x = new House(300);
        fourRuns(x, 0);
        dueMerge("10 pages", x, 12, 2);
        x.put(-1, 0);
        x.flush();
        dueMerge("one page above level 2", x, 1, 1);
        Check.due("level 2 stays behind", x.run(1, 1), 2);
        fourRuns(x, 1000);
        dueMerge("20 pages or less", x, 12 + 1 + 10, 2);
        Check.due("all in one", x.told(4), 1);
        int pages = x.run(0, 2);
        fourRuns(x, 2000);
        dueMerge("more than 24", x, 12 + pages, 3);
        Check.due("all in one", x.told(4), 1);
        int oldest = x.run(0, 2);
        Check.due("entries", x.run(0, 3), 3 * 256 + 1);
        fourRuns(x, 3000);
        dueMerge("level 3 is not read", x, 12, 2);
        x.poke(x.run(1, 4), 0, 1);
        fourRuns(x, 4000);
        dueMerge("nor here, though it is bad", x, 12 + 10, 2);
        Check.due("level 3 stays behind", x.run(1, 2), oldest);
        fourRuns(x, 5000);
        int read = x.told(2);
        pages = x.run(4, 2);
        Check.due("now level 3 comes to be taken", x.merge(), REFUSED);
        Check.due("read up to its first page", x.told(2), read + 12 + pages + 1);
        Check.due("runs stay", x.told(4), 6);
    }

    private static void dueMerge(String what, House x, int read, int level) {
        int before = x.told(2);
        Check.due(what + ": merged", x.merge() > REFUSED, true);
        Check.due(what + ": pages read", x.told(2), before + read);
        Check.due(what + ": level", x.run(0, 1), level);
    }

    /** Groups of 27 keys that fill a page to the last octet, when they are in one run. */
    private static void putGroups(House x, int first, int end) {
        for (int group = first; group < end; group++) {
            int now = Math.min(27, 64 - x.told(1));
            x.many(1, now, group * 256L, 1);
            if (now < 27) {
                x.flush();
                x.many(1, 27 - now, group * 256L + now, 1);
            }
        }
        x.flush();
    }

    private static void mergeLimits() {
        int[][] cases = {{8, 0, 1, 8}, {9, 0, 2, 9}, {12, 12, 2, 24}, {12, 13, 3, 25}};
        for (int[] c : cases) {
            House x = new House(200);
            putGroups(x, 0, c[0]);
            x.merge();
            if (c[1] > 0) {
                putGroups(x, c[0], c[0] + c[1]);
                x.merge();
            }
            Check.due("one run", x.told(4), 1);
            Check.due("level of " + c[3] + " pages", x.run(0, 1), c[2]);
            Check.due("pages", x.run(0, 2), c[3]);
        }
    }

    private static void mergeCountsWithoutEnds() {
        House x = new House(100);
        x.many(1, 64, 0, 100000);
        x.flush();
        x.many(1, 64, 6400000, 100000);
        x.flush();
        x.many(2, 64, 0, 100000);
        x.flush();
        x.many(2, 60, 6400000, 100000);
        x.flush();
        x.merge();
        Check.due("4 are left", x.run(0, 3), 4);
        Check.due("counted without the ENDs: level 1", x.run(0, 1), 1);
    }

    private static void leastPages() {
        House x = new House(30);
        x.put(1, 1);
        x.flush();
        x.put(2, 2);
        x.flush();
        x.merge();
        Check.due("behind those taken", x.run(0, 4), 4);
        x.many(1, 60, 0, 1);
        x.flush();
        Check.due("first page", x.run(0, 4), 2);
        Check.due("next", x.octet(2, 3), 3);
        Check.due("next leaves out the one in use", x.octet(3, 3), 5);
        Check.due("none behind", x.octet(5, 3), 0);
    }
}
