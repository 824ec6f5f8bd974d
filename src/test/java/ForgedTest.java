import java.util.Arrays;

/** Promises 5 to 9, 14, 21, 22 on heads and pages with right sums that plain runs of calls do not write. */
final class ForgedTest {
    // A run of one page: number 7, no next page, one entry: key 1, PUT, value 3.
    private static final int[] ONE_ENTRY = {0, 7, 0, 0, 1, 0, 128, 0, 0, 0, 0, 0, 0, 1, 1, 6};

    public static void main(String[] args) {
        flushNumberNought();
        manyNumberNought();
        markNumberNought();
        mergeNumberNought();
        sharedPagesReleased();
        sharedPagesMerged();
        sharedPagesAreNotWritten();
        headsRight();
        headsWrong();
        pagesRight();
        pagesWrong();
        nextPages();
        headIsNoPageOfARun();
        greatNumbers();
        Check.end("ForgedTest");
    }

    /** An object that has opened a head without runs, after which the next run's number is 0. */
    private static SortedRuns nextIsNought() {
        SortedRuns x = new SortedRuns(40);
        Forge.lay(x, 0, 0, 0, 0, 2);
        x.down();
        Check.due("open", x.open(), 0);
        return x;
    }

    private static void flushNumberNought() {
        SortedRuns x = nextIsNought();
        x.put(1, 1);
        Check.due("the number", x.flush(), 0);
        Check.due("not down", x.told(7), 0);
        Check.due("table", x.told(1), 0);
        Check.due("number of the run", x.run(0, 0), 0);
        Check.duePage("its page", x, 2, 0, 0, 0, 0, 1, 0, 128, 0, 0, 0, 0, 0, 0, 1, 1, 2);
        x.put(2, 2);
        Check.due("the next one", x.flush(), 1);
    }

    private static void manyNumberNought() {
        SortedRuns x = nextIsNought();
        Check.due("many", x.many(1, 65, 0, 1), 65);
        Check.due("table", x.told(1), 1);
        Check.due("runs", x.told(4), 1);
        SortedRuns y = nextIsNought();
        y.cut(1, 5);
        Check.due("many, cut", y.many(1, 65, 0, 1), 64);
        Check.due("down", y.told(7), 1);
    }

    private static void markNumberNought() {
        SortedRuns x = nextIsNought();
        x.put(1, 1);
        Check.due("mark", x.mark(), 0);
        Check.due("marks", x.told(5), 1);
        Check.due("as of it", x.get(0, 1), 1);
        SortedRuns y = nextIsNought();
        y.put(1, 1);
        y.cut(2, 5);
        Check.due("mark, cut", y.mark(), -2);
    }

    private static void mergeNumberNought() {
        SortedRuns x = new SortedRuns(40);
        x.put(1, 1);
        x.flush();
        Forge.lay(x, 1, 0, 0, 0, 3, 0, 0, 1, 0, 1, 0, 0, 2, 0, 1);
        x.down();
        Check.due("open", x.open(), 1);
        Check.due("merge", x.merge(), 0);
        Check.due("number", x.run(0, 0), 0);
        Check.due("level", x.run(0, 1), 1);
        Check.due("its key", x.get(-1, 1), 1);
    }

    /** Runs of now on pages 2, 3, 4 (level 0), 2, 3 (level 1) and 3, 4 (level 3). */
    private static SortedRuns shared() {
        SortedRuns x = new SortedRuns(30);
        x.many(1, 60, 0, 1);
        x.flush();
        Forge.lay(x, 1, 0, 0, 0, 3, 0, 9, 3, 0, 1, 0, 0, 2, 0, 3, 0, 1, 1, 0, 2, 0, 2, 0, 1, 3, 0, 3, 0, 2);
        x.down();
        Check.due("open", x.open(), 3);
        Check.due("each run's pages are read", x.told(2), 7);
        Check.due("three pages are not free", x.told(0), 25);
        int[][] runs = {{1, 0, 3, 60, 2}, {1, 1, 2, 54, 2}, {1, 3, 2, 33, 3}};
        for (int i = 0; i < 3; i++) {
            for (int what = 0; what < 5; what++) {
                Check.due("run(" + i + ", " + what + ")", x.run(i, what), runs[i][what]);
            }
        }
        return x;
    }

    private static void sharedPagesReleased() {
        SortedRuns x = shared();
        Check.due("mark", x.mark(), 0);
        Check.due("merge: the mark has what it took", x.merge(), -3);
        Check.due("free", x.told(0), 22);
        Check.due("release: the last run has pages 3, 4", x.release(0), 1);
        Check.due("free", x.told(0), 23);
        Check.due("mark", x.mark(), 0);
        Check.due("release: now has all", x.release(0), 0);
    }

    private static void sharedPagesMerged() {
        SortedRuns x = shared();
        Check.due("merge: page 2 is free", x.merge(), -2);
        Check.due("free", x.told(0), 23);
        x.remove(1);
        x.flush();
        Check.due("page 2 is the least free one", x.run(0, 4), 2);
        Check.due("merge", x.merge(), 1);
    }

    private static void sharedPagesAreNotWritten() {
        SortedRuns x = shared();
        x.mark();
        x.merge();
        x.release(0);
        x.many(2, 60, 100, 1);
        x.flush();
        Check.due("first page", x.run(0, 4), 2);
        Check.due("the next one is behind the merged run", x.octet(2, 3), 8);
        Check.due("nothing is bad", x.badAt(), SortedRuns.NONE);
        x.down();
        Check.due("all is there", x.open(), 3);
        Check.due("keys", x.range(-1, Long.MIN_VALUE, Long.MAX_VALUE), 60);
    }

    /** A run number 7 on page 2; the head on page 0 (generation 2) has no runs; then a head on page 1. */
    private static SortedRuns withHead(int... head) {
        SortedRuns x = new SortedRuns(30);
        x.down();
        Forge.lay(x, 0, 0, 0, 0, 2, 0, 1);
        Forge.lay(x, 1, head);
        Forge.lay(x, 2, ONE_ENTRY);
        return x;
    }

    private static int[] headOf(int... levels) {
        int[] head = new int[7 + 7 * levels.length];
        head[3] = 3;
        head[5] = 8;
        head[6] = levels.length;
        for (int i = 0; i < levels.length; i++) {
            int at = 7 + 7 * i;
            head[at + 1] = 7;
            head[at + 2] = levels[i];
            head[at + 4] = 2;
            head[at + 6] = 1;
        }
        return head;
    }

    private static int[] changed(int[] octets, int at, int octet) {
        int[] other = Arrays.copyOf(octets, Math.max(at + 1, octets.length));
        other[at] = octet;
        return other;
    }

    private static void headsRight() {
        int[][] levels = {{}, {0}, {3}, {1, 3}, {0, 0, 0, 0, 0, 0, 1, 2, 3}};
        for (int[] some : levels) {
            SortedRuns x = withHead(headOf(some));
            Check.due("open of " + some.length, x.open(), some.length);
            Check.due("generation", x.told(6), 3);
            Check.due("free", x.told(0), some.length > 0 ? 27 : 28);
            Check.due("read", x.told(2), some.length);
        }
        SortedRuns x = withHead(changed(headOf(0), 100, 1));
        Check.due("octets behind the runs are not asked", x.open(), 1);
        SortedRuns y = withHead(changed(headOf(0), 2, 255));
        Check.due("a great generation", y.open(), 1);
        Check.due("generation", y.told(6), 255 * 256 + 3);
        y.put(1, 1);
        y.flush();
        Check.due("goes on", y.told(6), 255 * 256 + 4);
    }

    private static void headsWrong() {
        int[][] levels = {{0, 0, 0, 0, 0, 0, 0}, {1, 1}, {1, 0}, {0, 2, 1}, {0, 4}, {255}, {0, 3, 3}, {2, 0, 3}};
        for (int[] some : levels) {
            SortedRuns x = withHead(headOf(some));
            Check.due("open of " + some.length, x.open(), 0);
            Check.due("the other head", x.told(6), 2);
        }
        int[][] heads = {changed(headOf(0), 3, 0), changed(headOf(0), 3, 4), changed(headOf(0), 6, 2),
            changed(headOf(0), 6, 255), changed(headOf(0, 1), 20, 0)};
        for (int[] head : heads) {
            SortedRuns x = withHead(head);
            Check.due("open", x.open(), 0);
            Check.due("the other head", x.told(6), 2);
            Check.due("nothing is read", x.told(2), 0);
        }
    }

    private static void duePageOpens(int answer, int... octets) {
        SortedRuns x = withHead(headOf(0));
        Forge.lay(x, 2, octets);
        Check.due("open, octets " + Arrays.toString(octets), x.open(), answer);
        Check.due("read", x.told(2), 1);
        Check.due("down", x.told(7), answer < 0 ? 1 : 0);
    }

    private static int[] with(int count, int... behind) {
        int[] octets = Arrays.copyOf(ONE_ENTRY, 16 + behind.length);
        octets[4] = count;
        System.arraycopy(behind, 0, octets, 16, behind.length);
        return octets;
    }

    private static void pagesRight() {
        duePageOpens(1, ONE_ENTRY);
        duePageOpens(1, with(2, 7, 2, 2));
        duePageOpens(1, with(2, 7, 2, 3, 128, 1));
        duePageOpens(1, with(2, 0, 129, 0, 0, 0, 0, 0, 0, 0, 2));
        duePageOpens(1, with(2, 7, 2, 1, 255, 255, 255, 255, 255, 255, 255, 255, 255, 1));
    }

    private static void pagesWrong() {
        int wrong = -2 - 2;
        duePageOpens(wrong);
        duePageOpens(wrong, with(0));
        duePageOpens(wrong, 0, 7, 0, 0, 0);
        duePageOpens(wrong, with(2));
        duePageOpens(wrong, with(255));
        duePageOpens(wrong, changed(ONE_ENTRY, 1, 8));
        duePageOpens(wrong, changed(ONE_ENTRY, 0, 1));
        duePageOpens(wrong, changed(ONE_ENTRY, 5, 1));
        duePageOpens(wrong, changed(ONE_ENTRY, 5, 8));
        duePageOpens(wrong, changed(ONE_ENTRY, 14, 0));
        duePageOpens(wrong, changed(ONE_ENTRY, 14, 2));
        duePageOpens(wrong, changed(ONE_ENTRY, 14, 4));
        duePageOpens(wrong, changed(ONE_ENTRY, 15, 134));
        duePageOpens(wrong, changed(ONE_ENTRY, 119, 1));
        duePageOpens(wrong, with(1, 1));
        duePageOpens(wrong, with(2, 6, 0, 2, 2));
        duePageOpens(wrong, with(2, 8, 2));
        duePageOpens(wrong, with(2, 9, 2));
        duePageOpens(wrong, with(2, 255, 2));
        duePageOpens(wrong, with(2, 7, 1, 2));
        duePageOpens(wrong, with(2, 7, 0, 2));
        duePageOpens(wrong, with(2, 0, 127, 255, 255, 255, 255, 255, 255, 255, 2));
        duePageOpens(wrong, with(2, 7, 2, 1, 134, 0));
        duePageOpens(wrong, with(2, 7, 2, 1, 255, 255, 255, 255, 255, 255, 255, 255, 255, 3));
        duePageOpens(wrong, with(2, 7, 2, 1, 255, 255, 255, 255, 255, 255, 255, 255, 255, 129, 0));
        entryOverTheEnd();
    }

    /** Entries up to octet 119 are right; one whose value goes into the sum is not. */
    private static void entryOverTheEnd() {
        int[] full = Arrays.copyOf(ONE_ENTRY, 120);
        full[4] = 35;
        for (int key = 2; key < 35; key++) {
            int at = 16 + 3 * (key - 2);
            full[at] = 7;
            full[at + 1] = key;
            full[at + 2] = 2;
        }
        System.arraycopy(new int[] {7, 35, 1, 129, 1}, 0, full, 115, 5);
        duePageOpens(1, full);
        duePageOpens(-2 - 2, changed(full, 119, 129));
        duePageOpens(-2 - 2, changed(full, 4, 36));
    }

    private static void nextPages() {
        int[] twoPages = changed(headOf(0), 13, 2);
        int[] nexts = {0, 1, 2, 3, 4, 29, 30, 255};
        for (int next : nexts) {
            SortedRuns x = withHead(twoPages);
            Forge.lay(x, 2, changed(ONE_ENTRY, 3, next));
            Forge.lay(x, 4, changed(changed(ONE_ENTRY, 13, 2), 2, 99));
            Check.due("next page " + next, x.open(), next == 4 ? 1 : -2 - next);
            Check.due("two are read", x.told(2), 2);
        }
        SortedRuns y = withHead(changed(headOf(0), 11, 1));
        Check.due("first page 1", y.open(), -2 - 1);
        Check.due("it is read", y.told(2), 1);
        SortedRuns z = withHead(changed(headOf(0), 10, 1));
        Check.due("first page 258", z.open(), -2 - 258);
    }

    /** Octets that are a right head and just as much a page of the run (0, on page 1) which it names. */
    private static void headIsNoPageOfARun() {
        SortedRuns x = withHead(0, 0, 0, 3, 1, 0, 1, 0, 0, 0, 0, 1, 0, 1, 2);
        Check.due("page 1 is a head", x.open(), -2 - 1);
        Check.due("it is read", x.told(2), 1);
        SortedRuns y = withHead(0, 0, 0, 3, 1, 0, 1, 0, 0, 0, 0, 2, 0, 1, 2);
        Forge.lay(y, 2, 0, 0, 0, 3, 1, 0, 1, 0, 0, 0, 0, 2, 0, 1, 2);
        Check.due("page 2 with these octets is one of a run", y.open(), 1);
    }

    private static void greatNumbers() {
        SortedRuns x = new SortedRuns(1024);
        x.down();
        Forge.lay(x, 1, 0, 1, 0, 3, 18, 52, 1, 2, 1, 2, 3, 255, 0, 2);
        Forge.lay(x, 1023, 2, 1, 1, 2, 1, 0, 128, 0, 0, 0, 0, 0, 0, 1, 1, 6);
        Forge.lay(x, 258, 2, 1, 0, 0, 1, 0, 128, 0, 0, 0, 0, 0, 0, 2, 1, 8);
        Check.due("open", x.open(), 1);
        Check.due("generation", x.told(6), 65539);
        Check.due("number", x.run(0, 0), 513);
        Check.due("first page", x.run(0, 4), 1023);
        Check.due("of the next page", x.get(-1, 2), 4);
        x.put(1, 1);
        Check.due("next number", x.flush(), 4660);
        Check.duePage("head", x, 0, 0, 1, 0, 4, 18, 53, 2, 18, 52, 0, 0, 2, 0, 1, 2, 1, 2, 3, 255, 0, 2);
        Check.due("merge: that of level 2 is not taken", x.merge(), 0);
        Check.due("runs", x.told(4), 2);
    }
}
