import java.util.Arrays;

/** Promises 5 to 9, 14, 21, 22 on heads and pages with right sums that plain runs of calls do not write. */
final class ForgedTest {
    // A run of one page: number 7, no next page, one entry: key 1, PUT, value 3.
    private static final int[] ONE_ENTRY = {0, 7, 0, 0, 1, 0, 128, 0, 0, 0, 0, 0, 0, 1, 1, 6};

    public static void main(String[] args) {
        if (!Forge.can()) {
            System.out.println("ForgedTest: left out, the class holds its pages in another way");
            return;
        }
        flushNumberNought();
        manyNumberNought();
        markNumberNought();
        mergeNumberNought();
        sharedPagesReleased();
        sharedPagesMerged();
        sharedPagesAreNotWritten();
        headGenerations();
        headFreshRuns();
        headLevels();
        headPages();
        headOctetsBehind();
        pagesRight();
        pagesWrong();
        nextPages();
        lastPageNamesAnother();
        headIsNoPageOfARun();
        greatNumbers();
        Check.end("ForgedTest");
    }

    /** An object that has opened a head without runs, after which the next run's number is 0. */
    private static House nextIsNought() {
        House x = new House(40);
        Forge.lay(x, 0, 0, 0, 0, 2);
        x.down();
        Check.due("open", x.open(), 0);
        return x;
    }

    private static void flushNumberNought() {
        House x = nextIsNought();
        x.put(1, 1);
        Check.due("the number", x.flush(), 0);
        Check.due("not down", x.told(7), 0);
        Check.due("table", x.told(1), 0);
        Check.due("number of the run", x.run(0, 0), 0);
        Check.duePage("its page", x, 2, 0, 0, 0, 0, 1, 0, 128, 0, 0, 0, 0, 0, 0, 1, 1, 2);
        x.put(2, 2);
        Check.due("the next one", x.flush(), 1);
    }

    private static void manyNumberNought() {
        House x = nextIsNought();
        Check.due("many", x.many(1, 65, 0, 1), 65);
        Check.due("table", x.told(1), 1);
        Check.due("runs", x.told(4), 1);
        House y = nextIsNought();
        y.cut(1, 5);
        Check.due("many, cut", y.many(1, 65, 0, 1), 64);
        Check.due("down", y.told(7), 1);
    }

    private static void markNumberNought() {
        House x = nextIsNought();
        x.put(1, 1);
        Check.due("mark", x.mark(), 0);
        Check.due("marks", x.told(5), 1);
        Check.due("as of it", x.get(0, 1), 1);
        House y = nextIsNought();
        y.put(1, 1);
        y.cut(2, 5);
        Check.due("mark, cut", y.mark(), -2);
    }

    private static void mergeNumberNought() {
        House x = new House(40);
        x.put(1, 1);
        x.flush();
        Forge.lay(x, 1, 0, 0, 0, 3, 0, 0, 1, 0, 1, 0, 0, 2, 0, 1);
        x.down();
        Check.due("open", x.open(), 1);
        Check.due("merge", x.merge(), 0);
        Check.due("number", x.run(0, 0), 0);
        Check.due("level", x.run(0, 1), 1);
        Check.due("its key", x.get(-1, 1), 1);
    }

    /** Runs of now on pages 2, 3, 4 (level 0), 2, 3 (level 1) and 3, 4 (level 3). */
    private static House shared() {
        House x = new House(30);
        x.many(1, 60, 0, 1);
        x.flush();
        Forge.lay(x, 1, 0, 0, 0, 3, 0, 9, 3, 0, 1, 0, 0, 2, 0, 3, 0, 1, 1, 0, 2, 0, 2, 0, 1, 3, 0, 3, 0, 2);
        x.down();
        Check.due("open", x.open(), 3);
        Check.due("each run's pages are read", x.told(2), 7);
        Check.due("three pages are not free", x.told(0), 25);
        int[][] runs = {{1, 0, 3, 60, 2}, {1, 1, 2, 54, 2}, {1, 3, 2, 33, 3}};
        for (int i = 0; i < 3; i++) {
            for (int what = 0; what < 5; what++) {
                Check.due("run(" + i + ", " + what + ")", x.run(i, what), runs[i][what]);
            }
        }
        return x;
    }

    private static void sharedPagesReleased() {
        House x = shared();
        Check.due("mark", x.mark(), 0);
        Check.due("merge: the mark has what it took", x.merge(), -3);
        Check.due("free", x.told(0), 22);
        Check.due("release: the last run has pages 3, 4", x.release(0), 1);
        Check.due("free", x.told(0), 23);
        Check.due("mark", x.mark(), 0);
        Check.due("release: now has all", x.release(0), 0);
    }

    private static void sharedPagesMerged() {
        House x = shared();
        Check.due("merge: page 2 is free", x.merge(), -2);
        Check.due("free", x.told(0), 23);
        x.remove(1);
        x.flush();
        Check.due("page 2 is the least free one", x.run(0, 4), 2);
        Check.due("merge", x.merge(), 1);
    }

    private static void sharedPagesAreNotWritten() {
        House x = shared();
        x.mark();
        x.merge();
        x.release(0);
        x.many(2, 60, 100, 1);
        x.flush();
        Check.due("first page", x.run(0, 4), 2);
        Check.due("the next one is behind the merged run", x.octet(2, 3), 8);
        Check.due("nothing is bad", x.badAt(), SortedRuns.NONE);
        x.down();
        Check.due("all is there", x.open(), 3);
        Check.due("keys", x.range(-1, Long.MIN_VALUE, Long.MAX_VALUE), 60);
    }

    /** A run number 7 on page 2; the head on page 0 (generation 2) has no runs; then a head on page 1. */
    private static House withHead(int... head) {
        House x = new House(30);
        x.down();
        Forge.lay(x, 0, 0, 0, 0, 2, 0, 1);
        Forge.lay(x, 1, head);
        Forge.lay(x, 2, ONE_ENTRY);
        return x;
    }

    private static int[] headOf(int... levels) {
        int[] head = new int[7 + 7 * levels.length];
        head[3] = 3;
        head[5] = 8;
        head[6] = levels.length;
        for (int i = 0; i < levels.length; i++) {
            int at = 7 + 7 * i;
            head[at + 1] = 7;
            head[at + 2] = levels[i];
            head[at + 4] = 2;
            head[at + 6] = 1;
        }
        return head;
    }

    private static int[] changed(int[] octets, int at, int octet) {
        int[] other = Arrays.copyOf(octets, Math.max(at + 1, octets.length));
        other[at] = octet;
        return other;
    }

    /** Opened well, or passed over for the other head, which has no runs. */
    private static void dueHead(String what, boolean right, int... head) {
        House x = withHead(head);
        int runs = right ? head[6] : 0;
        Check.due(what + ": open", x.open(), runs);
        Check.due(what + ": generation", x.told(6), right ? head[2] * 256 + head[3] : 2);
        Check.due(what + ": free", x.told(0), runs > 0 ? 27 : 28);
        Check.due(what + ": read", x.told(2), runs);
    }

    /** "GENERATION above 0, modulo 2 that page". */
    private static void headGenerations() {
        int[] generations = {0, 1, 3, 4, 5, 254, 255};
        for (int generation : generations) {
            int[] head = changed(headOf(0), 3, generation);
            // 1 is right as well, but less than that of the other head.
            dueHead("generation " + generation, generation % 2 == 1 && generation > 2, head);
            House x = new House(30);
            x.down();
            x.poke(1, 0, 1);
            Forge.lay(x, 0, changed(headOf(), 3, generation));
            boolean right = generation % 2 == 0 && generation > 0;
            Check.due("generation " + generation + " on page 0", x.open(), right ? 0 : -1);
        }
        dueHead("generation 65283", true, changed(headOf(0), 2, 255));
        House y = withHead(changed(headOf(0), 2, 255));
        y.open();
        y.put(1, 1);
        y.flush();
        Check.due("goes on", y.told(6), 255 * 256 + 4);
    }

    /** "RUNS of LEVEL 0, 6 at most". */
    private static void headFreshRuns() {
        dueHead("none", true, headOf());
        dueHead("one", true, headOf(0));
        dueHead("6", true, headOf(0, 0, 0, 0, 0, 0));
        dueHead("7", false, headOf(0, 0, 0, 0, 0, 0, 0));
        dueHead("6 and others", true, headOf(0, 0, 0, 0, 0, 0, 1, 2, 3));
        dueHead("7 and another", false, headOf(0, 0, 0, 0, 0, 0, 0, 1));
        dueHead("7 and others", false, headOf(0, 0, 0, 0, 0, 0, 0, 1, 2, 3));
    }

    /** "then of each other LEVEL at most one, rising". */
    private static void headLevels() {
        dueHead("1", true, headOf(1));
        dueHead("1, 1", false, headOf(1, 1));
        dueHead("2", true, headOf(0, 2));
        dueHead("2, 2", false, headOf(0, 2, 2));
        dueHead("3", true, headOf(3));
        dueHead("3, 3", false, headOf(3, 3));
        dueHead("1, 2", true, headOf(1, 2));
        dueHead("2, 1", false, headOf(2, 1));
        dueHead("2, 3", true, headOf(0, 2, 3));
        dueHead("3, 2", false, headOf(0, 3, 2));
        dueHead("1, 3", true, headOf(1, 3));
        dueHead("3, 1", false, headOf(3, 1));
        dueHead("0, 1", true, headOf(0, 1));
        dueHead("1, 0", false, headOf(1, 0));
        dueHead("0, 3, 0", false, headOf(0, 3, 0));
        dueHead("3, 4", false, headOf(3, 4));
        dueHead("4", false, headOf(4));
        dueHead("255", false, headOf(0, 255));
    }

    /** "each with a page or more". */
    private static void headPages() {
        for (int run = 0; run < 3; run++) {
            int at = 7 + 7 * run + 6;
            dueHead("1 page", true, headOf(0, 0, 2));
            dueHead("0 pages", false, changed(headOf(0, 0, 2), at, 0));
            House x = withHead(changed(changed(headOf(0, 0, 2), at, 0), at - 1, 1));
            Check.due("256 pages: the head is right, the next page is 0", x.open(), -2);
            Check.due("read", x.told(2), run + 2);
        }
        dueHead("a run more than there is", false, changed(headOf(0), 6, 2));
        dueHead("255 runs", false, changed(headOf(0), 6, 255));
    }

    /** What does not stand in the list of things that make a head right is not asked. */
    private static void headOctetsBehind() {
        dueHead("an octet behind the runs", true, changed(headOf(0), 100, 1));
        dueHead("runs that are not counted", true, changed(headOf(0, 0, 0), 6, 1));
    }

    private static void duePageOpens(int answer, int... octets) {
        House x = withHead(headOf(0));
        Forge.lay(x, 2, octets);
        Check.due("open, octets " + Arrays.toString(octets), x.open(), answer);
        Check.due("read", x.told(2), 1);
        Check.due("down", x.told(7), answer < 0 ? 1 : 0);
    }

    private static int[] with(int count, int... behind) {
        int[] octets = Arrays.copyOf(ONE_ENTRY, 16 + behind.length);
        octets[4] = count;
        System.arraycopy(behind, 0, octets, 16, behind.length);
        return octets;
    }

    private static void pagesRight() {
        duePageOpens(1, ONE_ENTRY);
        duePageOpens(1, with(2, 7, 2, 2));
        duePageOpens(1, with(2, 7, 2, 3, 128, 1));
        duePageOpens(1, with(2, 0, 129, 0, 0, 0, 0, 0, 0, 0, 2));
        duePageOpens(1, with(2, 7, 2, 1, 255, 255, 255, 255, 255, 255, 255, 255, 255, 1));
    }

    private static void pagesWrong() {
        int wrong = -2 - 2;
        duePageOpens(wrong);
        duePageOpens(wrong, with(0));
        duePageOpens(wrong, 0, 7, 0, 0, 0);
        duePageOpens(wrong, with(2));
        duePageOpens(wrong, with(255));
        duePageOpens(wrong, changed(ONE_ENTRY, 1, 8));
        duePageOpens(wrong, changed(ONE_ENTRY, 0, 1));
        duePageOpens(wrong, changed(ONE_ENTRY, 5, 1));
        duePageOpens(wrong, changed(ONE_ENTRY, 5, 8));
        duePageOpens(wrong, changed(ONE_ENTRY, 14, 0));
        duePageOpens(wrong, changed(ONE_ENTRY, 14, 2));
        duePageOpens(wrong, changed(ONE_ENTRY, 14, 4));
        duePageOpens(wrong, changed(ONE_ENTRY, 15, 134));
        duePageOpens(wrong, changed(ONE_ENTRY, 119, 1));
        duePageOpens(wrong, with(1, 1));
        duePageOpens(wrong, with(2, 6, 0, 2, 2));
        duePageOpens(wrong, with(2, 8, 2));
        duePageOpens(wrong, with(2, 9, 2));
        duePageOpens(wrong, with(2, 255, 2));
        duePageOpens(wrong, with(2, 7, 1, 2));
        duePageOpens(wrong, with(2, 7, 0, 2));
        duePageOpens(wrong, with(2, 0, 127, 255, 255, 255, 255, 255, 255, 255, 2));
        duePageOpens(wrong, with(2, 7, 2, 1, 134, 0));
        duePageOpens(wrong, with(2, 7, 2, 1, 255, 255, 255, 255, 255, 255, 255, 255, 255, 3));
        duePageOpens(wrong, with(2, 7, 2, 1, 255, 255, 255, 255, 255, 255, 255, 255, 255, 129, 0));
        entryOverTheEnd();
    }

    /** Entries up to octet 119 are right; one whose value goes into the sum is not. */
    private static void entryOverTheEnd() {
        int[] full = Arrays.copyOf(ONE_ENTRY, 120);
        full[4] = 35;
        for (int key = 2; key < 35; key++) {
            int at = 16 + 3 * (key - 2);
            full[at] = 7;
            full[at + 1] = key;
            full[at + 2] = 2;
        }
        System.arraycopy(new int[] {7, 35, 1, 129, 1}, 0, full, 115, 5);
        duePageOpens(1, full);
        duePageOpens(-2 - 2, changed(full, 119, 129));
        duePageOpens(-2 - 2, changed(full, 4, 36));
    }

    private static void nextPages() {
        int[] twoPages = changed(headOf(0), 13, 2);
        int[] nexts = {0, 1, 2, 3, 4, 29, 30, 255};
        for (int next : nexts) {
            House x = withHead(twoPages);
            Forge.lay(x, 2, changed(ONE_ENTRY, 3, next));
            Forge.lay(x, 4, changed(changed(ONE_ENTRY, 13, 2), 2, 99));
            Check.due("next page " + next, x.open(), next == 4 ? 1 : -2 - next);
            Check.due("two are read", x.told(2), 2);
        }
        House y = withHead(changed(headOf(0), 11, 1));
        Check.due("first page 1", y.open(), -2 - 1);
        Check.due("it is read", y.told(2), 1);
        House z = withHead(changed(headOf(0), 10, 1));
        Check.due("first page 258", z.open(), -2 - 258);
    }

    /** The last page of a run names one that is not its own, with keys that are in its span. */
    private static void lastPageNamesAnother() {
        House x = withHead(changed(headOf(0, 1), 18, 3));
        // Run 7 on page 2: keys 1, 9; it names page 3: run 7, of level 1: key 5.
        Forge.lay(x, 2, 0, 7, 0, 3, 2, 0, 128, 0, 0, 0, 0, 0, 0, 1, 1, 6, 7, 9, 1, 6);
        Forge.lay(x, 3, 0, 7, 0, 2, 1, 0, 128, 0, 0, 0, 0, 0, 0, 5, 1, 8);
        Check.due("open", x.open(), 2);
        Check.due("pages", x.run(0, 2), 1);
        Check.due("the last key", x.get(-1, 9), 3);
        Check.due("read", x.told(2), 3);
        Check.due("of the older run", x.get(-1, 5), 4);
        int read = x.told(2);
        long[][] ranges = {{0, 10, 3}, {2, 10, 2}, {6, 10, 1}, {9, 9, 1}, {10, 20, 0}, {0, 5, 2}};
        for (long[] r : ranges) {
            Check.due("range(" + r[0] + ", " + r[1] + ")", x.range(-1, r[0], r[1]), r[2]);
        }
        Check.due("read", x.told(2) - read, 12);
        Check.due("badAt", x.badAt(), SortedRuns.NONE);
        Check.due("merge", x.merge(), 1);
        Check.due("entries", x.run(0, 3), 3);
        House y = withHead(changed(headOf(0), 13, 2));
        // Pages 2, 4 are of the run: keys 1 and 9; the last one names page 3, which is free.
        Forge.lay(y, 2, changed(ONE_ENTRY, 3, 4));
        Forge.lay(y, 4, 0, 7, 0, 3, 1, 0, 128, 0, 0, 0, 0, 0, 0, 9, 1, 6);
        Forge.lay(y, 3, 0, 7, 0, 0, 1, 0, 128, 0, 0, 0, 0, 0, 0, 12, 1, 8);
        Check.due("open", y.open(), 1);
        Check.due("free", y.told(0), 26);
        long[] froms = {0, 2, 9, 10};
        int[] counts = {2, 1, 1, 0};
        for (int i = 0; i < 4; i++) {
            Check.due("range from " + froms[i], y.range(-1, froms[i], 20), counts[i]);
        }
        Check.due("merge", y.merge(), 1);
        Check.due("entries", y.run(0, 3), 2);
    }

    /** Octets that are a right head and just as much a page of the run (0, on page 1) which it names. */
    private static void headIsNoPageOfARun() {
        House x = withHead(0, 0, 0, 3, 1, 0, 1, 0, 0, 0, 0, 1, 0, 1, 2);
        Check.due("page 1 is a head", x.open(), -2 - 1);
        Check.due("it is read", x.told(2), 1);
        House y = withHead(0, 0, 0, 3, 1, 0, 1, 0, 0, 0, 0, 2, 0, 1, 2);
        Forge.lay(y, 2, 0, 0, 0, 3, 1, 0, 1, 0, 0, 0, 0, 2, 0, 1, 2);
        Check.due("page 2 with these octets is one of a run", y.open(), 1);
    }

    private static void greatNumbers() {
        House x = new House(1024);
        x.down();
        Forge.lay(x, 1, 0, 1, 0, 3, 18, 52, 1, 2, 1, 2, 3, 255, 0, 2);
        Forge.lay(x, 1023, 2, 1, 1, 2, 1, 0, 128, 0, 0, 0, 0, 0, 0, 1, 1, 6);
        Forge.lay(x, 258, 2, 1, 0, 0, 1, 0, 128, 0, 0, 0, 0, 0, 0, 2, 1, 8);
        Check.due("open", x.open(), 1);
        Check.due("generation", x.told(6), 65539);
        Check.due("number", x.run(0, 0), 513);
        Check.due("first page", x.run(0, 4), 1023);
        Check.due("of the next page", x.get(-1, 2), 4);
        x.put(1, 1);
        Check.due("next number", x.flush(), 4660);
        Check.duePage("head", x, 0, 0, 1, 0, 4, 18, 53, 2, 18, 52, 0, 0, 2, 0, 1, 2, 1, 2, 3, 255, 0, 2);
        Check.due("merge: that of level 2 is not taken", x.merge(), 0);
        Check.due("runs", x.told(4), 2);
    }
}
