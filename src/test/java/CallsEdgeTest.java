/** Promises 1 to 9, 14, 16 to 20 and 22, sentence by sentence: on either side of each boundary that they name. */
final class CallsEdgeTest {
    private static final int NONE = SortedRuns.NONE;
    private static final int REFUSED = -1000000;
    private static final int CUT = -2000000;
    // Keys in this step share no octet: with values of one octet 11 octets each, 10 a page.
    private static final long SPREAD = 1L << 56;

    public static void main(String[] args) {
        howManyPages();
        downOrFull();
        manyKinds();
        manyCounts();
        manyGoesRound();
        manyValues();
        manyFlushes();
        manyMerges();
        manyWithoutPages();
        manyWithoutMerge();
        manyCut();
        flushOfNothing();
        flushOfTooFewPages();
        flushCut();
        mergeAnswers();
        mergeAnswersBelowNought();
        mergeRefusedChangesNothing();
        mergeCut();
        eightMarks();
        marksFlush();
        markOfTooFewPages();
        markCut();
        releases();
        releaseFrees();
        runs();
        octets();
        pokes();
        pokeMasks();
        pokeWrongAlready();
        badAts();
        badAtOfMarks();
        cutArguments();
        cutCounts();
        cutNone();
        cutTheThousandth();
        cutBehindDown();
        downs();
        tolds();
        toldAtFirst();
        toldGeneration();
        Check.end("CallsEdgeTest");
    }

    // ---- promise 1

    /** "(below 4 counts as 4, above 1024 as 1024)". */
    private static void howManyPages() {
        int[] asked = {3, 4, 5, 1023, 1024, 1025};
        int[] there = {4, 4, 5, 1023, 1024, 1024};
        for (int i = 0; i < asked.length; i++) {
            House x = new House(asked[i]);
            int pages = there[i];
            Check.due(asked[i] + ": FREE", x.told(0), pages - 2);
            Check.due(asked[i] + ": the last octet", x.octet(pages - 1, 127), 0);
            Check.indexThrown(asked[i] + ": a page more", () -> x.octet(pages, 0));
        }
    }

    // ---- promises 2 to 5

    /** "IllegalStateException: DOWN, or it has 64 others". */
    private static void downOrFull() {
        House x = new House(20);
        x.many(1, 63, 0, 1);
        Check.due("a 64th", x.put(63, 1), 64);
        Check.stateThrown("put: 64 others", () -> x.put(64, 1));
        Check.stateThrown("remove: 64 others", () -> x.remove(64));
        Check.stateThrown("fold: 64 others", () -> x.fold(64, 1));
        Check.due("put: 63 others", x.put(63, 2), 64);
        Check.due("fold: 63 others", x.fold(63, 2), 64);
        Check.due("remove: 63 others", x.remove(63), 64);
        x.flush();
        Check.due("put: none", x.put(64, 1), 1);
        x.down();
        Check.stateThrown("put: DOWN", () -> x.put(64, 1));
        Check.stateThrown("remove: DOWN", () -> x.remove(64));
        Check.stateThrown("fold: DOWN", () -> x.fold(64, 1));
        x.open();
        Check.due("put: not DOWN", x.put(64, 1), 1);
        Check.due("remove: not DOWN", x.remove(65), 2);
        Check.due("fold: not DOWN", x.fold(66, 1), 3);
    }

    /** "kind is not 1 to 3". */
    private static void manyKinds() {
        House x = new House(20);
        int[] kinds = {0, 1, 2, 3, 4};
        for (int kind : kinds) {
            if (kind < 1 || kind > 3) {
                Check.argumentThrown("kind " + kind, () -> x.many(kind, 1, kind, 1));
            } else {
                Check.due("kind " + kind, x.many(kind, 1, kind, 1), 1);
            }
        }
        Check.due("three came", x.told(1), 3);
        x.flush();
        Check.dueOctets("PUT, END, ADD", x, 2, 4, 3, 0, 128, 0, 0, 0, 0, 0, 0, 1, 1, 0, 7, 2, 2, 7, 3, 3, 0);
    }

    /** "or n not 1 to 1000"; "IllegalStateException: DOWN" before it. */
    private static void manyCounts() {
        House x = new House(20);
        int[] counts = {-1, 0, 1, 1000, 1001};
        for (int n : counts) {
            if (n < 1 || n > 1000) {
                Check.argumentThrown("n = " + n, () -> x.many(3, n, 0, 0));
            } else {
                Check.due("n = " + n, x.many(3, n, 0, 0), n);
            }
        }
        Check.due("0 + 1 + .. + 999", x.get(-1, 0), 499500);
        x.down();
        Check.stateThrown("DOWN", () -> x.many(3, 1, 0, 0));
        Check.stateThrown("DOWN is before the others", () -> x.many(4, 1001, 0, 0));
    }

    /** "of keys from, from + step, .. (64 bits, round)". */
    private static void manyGoesRound() {
        House x = new House(20);
        Check.due("up", x.many(1, 3, Long.MAX_VALUE - 1, 1), 3);
        Check.due("the greatest", x.get(-1, Long.MAX_VALUE), 1);
        Check.due("the least is behind it", x.get(-1, Long.MIN_VALUE), 2);
        Check.due("down", x.many(1, 3, Long.MIN_VALUE + 1, -1), 3);
        Check.due("the least", x.get(-1, Long.MIN_VALUE), 1);
        Check.due("the greatest is behind it", x.get(-1, Long.MAX_VALUE), 2);
        Check.due("in great steps", x.many(1, 3, 0, Long.MIN_VALUE), 3);
        Check.due("back at 0", x.get(-1, 0), 2);
        Check.due("table", x.told(1), 5);
    }

    /** "of values 0, 1, ..", also behind a FLUSH. */
    private static void manyValues() {
        House x = new House(60);
        Check.due("many", x.many(1, 130, 10, 10), 130);
        long[] values = {0, 1, 63, 64, 127, 128, 129};
        for (long value : values) {
            Check.due("its value", x.get(-1, 10 + 10 * value), value);
        }
        Check.due("range", x.range(-1, 0, 10000), 130);
    }

    /** "whenever the table has 64 others: .. FLUSH". */
    private static void manyFlushes() {
        House x = new House(60);
        Check.due("64", x.many(1, 64, 0, 1), 64);
        Check.due("no FLUSH", x.told(3), 0);
        Check.due("once more the same", x.many(2, 64, 0, 1), 64);
        Check.due("no FLUSH", x.told(3), 0);
        Check.due("another", x.many(1, 1, 64, 1), 1);
        Check.due("a FLUSH", x.run(0, 3), 64);
        Check.due("table", x.told(1), 1);
    }

    /** "MERGE, if 6 are of LEVEL 0, then FLUSH". */
    private static void manyMerges() {
        int[][] cases = {{5, 0}, {6, 0}, {4, 1}, {5, 1}, {6, 1}};
        for (int[] c : cases) {
            House x = new House(60);
            int fresh = c[0];
            int older = c[1];
            for (int i = -older; i < fresh; i++) {
                x.put(i, 1);
                x.flush();
                if (i < 0) {
                    x.merge();
                }
            }
            x.many(1, 64, 100, 1);
            Check.due("RUNS", x.told(4), fresh + older);
            int read = x.told(2);
            Check.due("one more", x.many(1, 1, 1000, 1), 1);
            Check.due(fresh + " of LEVEL 0: READ", x.told(2) - read, fresh == 6 ? 6 + older : 0);
            Check.due("RUNS", x.told(4), fresh == 6 ? 2 : fresh + older + 1);
            Check.due("the newest", x.run(0, 3), 64);
            Check.due("LEVEL of the oldest", x.run(x.told(4) - 1, 1), fresh == 6 ? 1 : older);
        }
    }

    /** "How many came: less than n when the table had no place by these". */
    private static void manyWithoutPages() {
        int[] pages = {4, 5};
        for (int count : pages) {
            House x = new House(count);
            // 64 keys in a row need 3 pages; in 5 pages 3 are FREE.
            Check.due(count + " pages", x.many(1, 70, 0, 1), count == 5 ? 70 : 64);
            Check.due("table", x.told(1), count == 5 ? 6 : 64);
            Check.due("not DOWN", x.told(7), 0);
            Check.due("those of the table", x.many(1, 6, count == 5 ? 64 : 0, 1), 6);
        }
    }

    /** A MERGE that can not be leaves 6 of LEVEL 0, so that there is no FLUSH either. */
    private static void manyWithoutMerge() {
        for (int bad = 0; bad < 2; bad++) {
            House x = new House(60);
            x.many(1, 64 * 7, 0, 1);
            Check.due("RUNS", x.told(4), 6);
            if (bad == 1) {
                x.poke(x.run(5, 4), 9, 1);
            }
            Check.due("BAD: " + bad, x.many(1, 10, 1000, 1), bad == 1 ? 0 : 10);
            Check.due("table", x.told(1), bad == 1 ? 64 : 10);
            Check.due("RUNS", x.told(4), bad == 1 ? 6 : 2);
        }
    }

    /** "or all is DOWN". */
    private static void manyCut() {
        for (int m = 4; m <= 5; m++) {
            House x = new House(60);
            x.cut(m, 100);
            // The first FLUSH has 3 pages and a HEAD.
            Check.due("cut in WRITE " + m, x.many(1, 100, 0, 1), m == 4 ? 64 : 100);
            Check.due("DOWN", x.told(7), m == 4 ? 1 : 0);
            Check.due("table", x.told(1), m == 4 ? 0 : 36);
        }
    }

    // ---- promise 6

    /** "NONE: no ENTRIES, 6 of LEVEL 0". */
    private static void flushOfNothing() {
        House x = new House(20);
        Check.due("no ENTRIES", x.flush(), NONE);
        for (int number = 1; number <= 6; number++) {
            x.remove(number);
            Check.due("one ENTRY", x.flush(), number);
            Check.due("no ENTRIES", x.flush(), NONE);
        }
        x.remove(7);
        Check.due("6 of LEVEL 0", x.flush(), NONE);
        Check.due("written", x.told(3), 12);
        Check.due("table", x.told(1), 1);
    }

    /** "or too few FREE pages". */
    private static void flushOfTooFewPages() {
        int[] keys = {20, 21};
        for (int count : keys) {
            House x = new House(4);
            x.many(1, count, 0, SPREAD);
            Check.due(count + " keys, 2 pages", x.flush(), count == 20 ? 1 : NONE);
            Check.due("FREE", x.told(0), count == 20 ? 0 : 2);
            Check.due("table", x.told(1), count == 20 ? 0 : 21);
            Check.due("written", x.told(3), count == 20 ? 3 : 0);
            Check.due("GENERATION", x.told(6), count == 20 ? 2 : 1);
        }
        House y = new House(4);
        y.many(1, 10, 0, SPREAD);
        y.flush();
        y.put(1, 1);
        Check.due("the last page", y.flush(), 2);
        y.put(1, 1);
        Check.due("none is left", y.flush(), NONE);
        y.down();
        Check.stateThrown("DOWN", () -> y.flush());
    }

    /** "0: it was cut", be it a page or the HEAD. */
    private static void flushCut() {
        for (int m = 0; m <= 3; m++) {
            House x = new House(20);
            x.put(1, 1);
            x.cut(m, 64);
            Check.due("cut in WRITE " + m, x.flush(), m == 1 || m == 2 ? 0 : 1);
            Check.due("DOWN", x.told(7), m == 1 || m == 2 ? 1 : 0);
        }
    }

    // ---- promise 7

    /** "the number of pages that are FREE by it (less those it took ..)". */
    private static void mergeAnswers() {
        House x = new House(40);
        Check.due("nothing of LEVEL 0", x.merge(), REFUSED);
        for (int i = 0; i < 6; i++) {
            x.put(i, 1);
            x.flush();
        }
        Check.due("6 pages go, 1 comes", x.merge(), 5);
        Check.due("nothing of LEVEL 0", x.merge(), REFUSED);
        x.many(1, 60, 100, 1);
        x.flush();
        Check.due("1 and 3 go, 3 come", x.merge(), 1);
        x.many(2, 6, 0, 1);
        x.many(2, 58, 100, 1);
        x.flush();
        Check.due("3 and 3 go, 1 comes", x.merge(), 4);
        Check.due("FREE", x.told(0), 37);
        x.down();
        Check.stateThrown("DOWN", () -> x.merge());
    }

    /** "below 0 as well". */
    private static void mergeAnswersBelowNought() {
        House x = new House(40);
        x.many(1, 20, 0, SPREAD);
        x.flush();
        Check.due("2 go, 2 come", x.merge(), 0);
        x.put(20 * SPREAD, 1);
        x.mark();
        // Of LEVEL 1 2 pages, of LEVEL 0 one: the MARK has all of them.
        Check.due("none go, 3 come", x.merge(), -3);
        Check.due("FREE", x.told(0), 38 - 3 - 3);
    }

    /** "-1000000: .. a page taken is BAD, or too few FREE pages (then nothing changed, but pages READ)". */
    private static void mergeRefusedChangesNothing() {
        for (int why = 0; why < 3; why++) {
            House x = new House(why == 2 ? 7 : 8);
            x.many(1, 20, 0, SPREAD);
            x.flush();
            x.many(1, 10, 20 * SPREAD, SPREAD);
            x.flush();
            x.put(5, 5);
            if (why == 1) {
                x.poke(2, 127, 1);
            }
            int free = x.told(0);
            Check.due("merge", x.merge(), why == 0 ? 0 : REFUSED);
            if (why > 0) {
                // Page 4, then page 2, which is BAD, or 3 as well.
                Check.dueTold("refused", x, free, 1, why == 1 ? 2 : 3, 5, 2, 0, 3, 0);
                Check.due("RUN 2", x.run(0, 0), 2);
                Check.due("RUN 1", x.run(1, 0), 1);
                Check.dueOctets("HEAD", x, 1, 0, 0, 0, 0, 3, 0, 3, 2);
            } else {
                Check.dueTold("merged", x, free, 1, 3, 9, 1, 0, 4, 0);
                Check.due("RUN 3", x.run(0, 0), 3);
            }
        }
    }

    /** "-2000000: it was cut", be it a page or the HEAD. */
    private static void mergeCut() {
        for (int m = 0; m <= 4; m++) {
            House x = new House(20);
            x.many(1, 20, 0, SPREAD);
            x.flush();
            x.cut(m, 3);
            boolean cut = m > 0 && m < 4;
            Check.due("cut in WRITE " + m, x.merge(), cut ? CUT : 0);
            Check.due("written", x.told(3), 3 + (cut ? m : 3));
            Check.due("DOWN", x.told(7), cut ? 1 : 0);
            Check.due("GENERATION", x.told(6), cut ? 2 : 3);
            if (cut) {
                Check.due("as it was", x.open(), 1);
                Check.due("LEVEL", x.run(0, 1), 0);
            }
        }
    }

    // ---- promises 8, 9

    /** "NONE: 8 are there (no FLUSH then)". */
    private static void eightMarks() {
        House x = new House(20);
        for (int i = 0; i < 7; i++) {
            x.mark();
        }
        x.put(1, 1);
        Check.due("the 8th", x.mark(), 7);
        Check.due("a FLUSH", x.told(3), 2);
        x.put(2, 2);
        Check.due("a 9th", x.mark(), NONE);
        Check.due("no FLUSH", x.told(3), 2);
        Check.due("table", x.told(1), 1);
        Check.due("MARKS", x.told(5), 8);
        x.release(4);
        Check.due("now there is one", x.mark(), 4);
        Check.due("a FLUSH", x.told(3), 4);
    }

    /** Section 3: "(the table is FLUSHED first, if it is not empty)". */
    private static void marksFlush() {
        House x = new House(20);
        for (int i = 0; i < 6; i++) {
            Check.due("an empty table", x.mark(), 0);
            Check.due("RUNS", x.told(4), i);
            x.release(0);
            x.put(i, i);
            Check.due("one ENTRY", x.mark(), 0);
            Check.due("RUNS", x.told(4), i + 1);
            x.release(0);
        }
        Check.due("6 of LEVEL 0, an empty table", x.mark(), 0);
        x.put(7, 7);
        Check.due("6 of LEVEL 0, one ENTRY", x.mark(), NONE);
        Check.due("MARKS", x.told(5), 1);
        Check.due("table", x.told(1), 1);
    }

    /** "or the FLUSH can not be". */
    private static void markOfTooFewPages() {
        int[] keys = {20, 21};
        for (int count : keys) {
            House x = new House(4);
            x.many(1, count, 0, SPREAD);
            Check.due(count + " keys, 2 pages", x.mark(), count == 20 ? 0 : NONE);
            Check.due("MARKS", x.told(5), count == 20 ? 1 : 0);
            Check.due("table", x.told(1), count == 20 ? 0 : 21);
        }
    }

    /** "-2: the FLUSH was cut". */
    private static void markCut() {
        for (int m = 1; m <= 3; m++) {
            House x = new House(20);
            x.put(1, 1);
            x.cut(m, 9);
            Check.due("cut in WRITE " + m, x.mark(), m < 3 ? -2 : 0);
            Check.due("DOWN", x.told(7), m < 3 ? 1 : 0);
            Check.due("MARKS", x.told(5), m < 3 ? 0 : 1);
        }
        House y = new House(20);
        y.cut(1, 9);
        Check.due("no FLUSH, no WRITE", y.mark(), 0);
        y.put(1, 1);
        Check.due("it is the first one still", y.flush(), 0);
        Check.stateThrown("DOWN", () -> y.mark());
    }

    /** "IndexOutOfBoundsException: none such; IllegalStateException: DOWN (that first)". */
    private static void releases() {
        House x = new House(20);
        for (int i = 0; i < 8; i++) {
            x.mark();
        }
        int[] marks = {-1, 0, 7, 8};
        for (int mark : marks) {
            if (mark == 0 || mark == 7) {
                Check.due("release(" + mark + ")", x.release(mark), 0);
            }
            Check.indexThrown("none such: " + mark, () -> x.release(mark));
        }
        Check.due("MARKS", x.told(5), 6);
        x.down();
        Check.stateThrown("DOWN: one that was there", () -> x.release(3));
        Check.stateThrown("DOWN: none such", () -> x.release(8));
        x.open();
        Check.indexThrown("opened: none such", () -> x.release(3));
    }

    /** "how many pages are FREE by that". */
    private static void releaseFrees() {
        House x = new House(40);
        x.many(1, 20, 0, SPREAD);
        x.mark();
        x.mark();
        Check.due("now has them", x.release(1), 0);
        x.mark();
        x.merge();
        int free = x.told(0);
        Check.due("another MARK has them", x.release(0), 0);
        Check.due("no other has them", x.release(1), 2);
        Check.due("FREE", x.told(0), free + 2);
    }

    // ---- promise 14

    /** "IndexOutOfBoundsException: none such (DOWN: all)". */
    private static void runs() {
        House x = new House(20);
        x.put(1, 1);
        x.flush();
        x.many(1, 11, 0, SPREAD);
        x.flush();
        int[][] due = {{2, 0, 2, 11, 3}, {1, 0, 1, 1, 2}};
        for (int i = -1; i <= 2; i++) {
            for (int what = -1; what <= 5; what++) {
                int run = i;
                int asked = what;
                if (i < 0 || i > 1 || what < 0 || what > 4) {
                    Check.indexThrown("run(" + i + ", " + what + ")", () -> x.run(run, asked));
                } else {
                    Check.due("run(" + i + ", " + what + ")", x.run(i, what), due[i][what]);
                }
            }
        }
        x.down();
        for (int i = 0; i < 2; i++) {
            int run = i;
            Check.indexThrown("DOWN: run(" + i + ", 0)", () -> x.run(run, 0));
        }
        x.open();
        Check.due("opened", x.run(1, 3), 1);
    }

    // ---- promises 16 to 18

    /** "Octet i of a page (0 .. 255), DOWN or not. IndexOutOfBoundsException". */
    private static void octets() {
        House x = new House(6);
        x.put(-1, -1);
        x.flush();
        for (int down = 0; down < 2; down++) {
            Check.due("127", x.octet(2, 6), 127);
            Check.due("255", x.octet(2, 7), 255);
            Check.due("the first of all", x.octet(0, 0), 0);
            Check.due("the last of all", x.octet(5, 127), 0);
            Check.indexThrown("page -1", () -> x.octet(-1, 0));
            Check.indexThrown("page 6", () -> x.octet(6, 0));
            Check.indexThrown("octet -1", () -> x.octet(2, -1));
            Check.indexThrown("octet 128", () -> x.octet(2, 128));
            Check.indexThrown("octet -1 of page 0", () -> x.octet(0, -1));
            Check.indexThrown("octet 128 of page 0", () -> x.octet(0, 128));
            x.down();
        }
    }

    /** "Octet i of a page is another one: exclusive or with mask. IndexOutOfBoundsException". */
    private static void pokes() {
        int[][] wrong = {{-1, 0}, {6, 0}, {2, -1}, {2, 128}, {0, -1}, {0, 128}};
        for (int[] w : wrong) {
            House x = new House(6);
            x.put(1, 1);
            x.flush();
            Check.indexThrown("poke(" + w[0] + ", " + w[1] + ")", () -> x.poke(w[0], w[1], 1));
            Check.indexThrown("before the mask", () -> x.poke(w[0], w[1], 0));
            Check.due("nothing is BAD", x.badAt(), NONE);
        }
        int[] octets = {0, 1, 126, 127};
        for (int i : octets) {
            House x = new House(6);
            x.put(1, 1);
            x.flush();
            int before = x.octet(2, i);
            x.poke(2, i, 129);
            Check.due("octet " + i, x.octet(2, i), before ^ 129);
            Check.due("BAD", x.badAt(), 2);
        }
    }

    /** "IllegalArgumentException: mask is not 1 to 255". */
    private static void pokeMasks() {
        int[] masks = {-1, 0, 1, 255, 256, 257};
        for (int mask : masks) {
            House x = new House(6);
            if (mask < 1 || mask > 255) {
                Check.argumentThrown("mask " + mask, () -> x.poke(1, 3, mask));
                Check.due("as it was", x.octet(1, 3), 1);
            } else {
                x.poke(1, 3, mask);
                Check.due("another one", x.octet(1, 3), 1 ^ mask);
            }
        }
    }

    /** "IllegalStateException: its SUM is wrong already". */
    private static void pokeWrongAlready() {
        House x = new House(6);
        for (int page = 0; page < 6; page++) {
            int poked = page;
            if (page < 2) {
                // Page 1 is a HEAD; the SUM of page 0, all 0s, is 0.
                x.poke(page, 9, 1);
            }
            Check.stateThrown("page " + page, () -> x.poke(poked, 9, 1));
            Check.stateThrown("before the mask: page " + page, () -> x.poke(poked, 9, 256));
            Check.indexThrown("behind the index: page " + page, () -> x.poke(poked, 128, 256));
            Check.due("as it was", x.octet(page, 9), page < 2 ? 1 : 0);
        }
        x.put(1, 1);
        x.flush();
        x.poke(2, 9, 1);
        Check.stateThrown("once alone", () -> x.poke(2, 9, 1));
        x.down();
        Check.stateThrown("DOWN, too", () -> x.poke(2, 9, 1));
        x.poke(0, 9, 1);
        Check.due("a HEAD that was written anew, DOWN", x.octet(0, 9), 1);
    }

    /** "The least page whose SUM is wrong, of the HEAD of this GENERATION and of all RUNS of now". */
    private static void badAts() {
        House x = new House(20);
        x.many(1, 20, 0, SPREAD);
        x.flush();
        x.put(1, 1);
        x.flush();
        Check.due("none is", x.badAt(), NONE);
        x.poke(0, 0, 1);
        Check.due("the HEAD before", x.badAt(), NONE);
        x.poke(4, 0, 1);
        Check.due("page 4", x.badAt(), 4);
        x.poke(3, 0, 1);
        Check.due("page 3", x.badAt(), 3);
        x.poke(2, 0, 1);
        Check.due("page 2", x.badAt(), 2);
        x.poke(1, 0, 1);
        Check.due("the HEAD", x.badAt(), 1);
        Check.due("not counted as READ", x.told(2), 0);
        x.put(2, 2);
        x.flush();
        Check.due("another HEAD", x.badAt(), 2);
        x.poke(0, 0, 1);
        Check.due("that HEAD", x.badAt(), 0);
        x.down();
        Check.due("DOWN", x.badAt(), NONE);
    }

    /** "and of MARKS". */
    private static void badAtOfMarks() {
        House x = new House(20);
        x.put(1, 1);
        x.mark();
        x.put(2, 2);
        x.flush();
        x.merge();
        x.poke(2, 0, 1);
        Check.due("page 2, of the MARK", x.badAt(), 2);
        x.poke(3, 0, 1);
        Check.due("page 2 still", x.badAt(), 2);
        x.release(0);
        Check.due("pages 2, 3 are FREE", x.badAt(), NONE);
        x.poke(4, 0, 1);
        Check.due("page 4, of now", x.badAt(), 4);
    }

    // ---- promise 19

    /** "IllegalArgumentException: m is not 0 to 1000, or k not 0 to 127". */
    private static void cutArguments() {
        int[][] asked = {{-1, 0}, {0, 0}, {1000, 0}, {1001, 0}, {1, -1}, {1, 0}, {1, 127}, {1, 128}};
        for (int[] a : asked) {
            House x = new House(20);
            boolean fine = a[0] >= 0 && a[0] <= 1000 && a[1] >= 0 && a[1] <= 127;
            x.cut(1, 5);
            if (fine) {
                x.cut(a[0], a[1]);
            } else {
                Check.argumentThrown("cut(" + a[0] + ", " + a[1] + ")", () -> x.cut(a[0], a[1]));
            }
            x.put(1, 1);
            Check.due("flush", x.flush(), fine && a[0] != 1 ? 1 : 0);
            int behind = fine ? a[0] == 1 ? a[1] : 128 : 5;
            Check.due("octet 4 is written", x.octet(2, 4), behind > 4 ? 1 : 0);
            Check.due("octet 6 is written", x.octet(2, 6), behind > 6 ? 128 : 0);
        }
    }

    /** "The m-th WRITE from now on". */
    private static void cutCounts() {
        for (int m = 1; m <= 7; m++) {
            House x = new House(20);
            x.put(0, 0);
            x.flush();
            x.cut(m, 0);
            int cutIn = 0;
            for (int i = 1; i <= 3 && x.told(7) == 0; i++) {
                x.put(i, 1);
                cutIn = x.flush() == 0 ? i : cutIn;
            }
            Check.due("cut in FLUSH", cutIn, m < 7 ? (m + 1) / 2 : 0);
            Check.due("written", x.told(3), 2 + Math.min(m, 6));
        }
    }

    /** "(0: none)": also when one was told before; once cut, none is. */
    private static void cutNone() {
        House x = new House(20);
        x.cut(1, 9);
        x.cut(0, 9);
        x.put(1, 1);
        Check.due("none", x.flush(), 1);
        x.cut(2, 9);
        x.put(2, 2);
        Check.due("cut", x.flush(), 0);
        x.open();
        for (int i = 2; i < 5; i++) {
            x.put(i, i);
            Check.due("no more", x.flush(), i);
        }
    }

    /** m = 1000 is one that counts. */
    private static void cutTheThousandth() {
        for (int m = 999; m <= 1000; m++) {
            House x = new House(600);
            x.cut(m, 0);
            for (int i = 0; i < 100 && x.told(7) == 0; i++) {
                x.many(1, 1000, 0, SPREAD + 1);
            }
            Check.due("DOWN", x.told(7), 1);
            Check.due("written", x.told(3), m);
        }
    }

    /** "also behind down() and open()". */
    private static void cutBehindDown() {
        for (int m = 1; m <= 3; m++) {
            House x = new House(20);
            x.cut(m, 0);
            x.down();
            x.open();
            x.put(1, 1);
            Check.due("behind down() and open()", x.flush(), m < 3 ? 0 : 1);
        }
        House y = new House(20);
        y.cut(3, 0);
        y.put(1, 1);
        Check.due("two WRITES", y.flush(), 1);
        y.down();
        y.cut(1, 0);
        y.cut(2, 0);
        y.open();
        y.put(2, 2);
        Check.due("told when DOWN", y.flush(), 0);
        Check.due("written", y.told(3), 4);
    }

    // ---- promises 20, 22

    /** "All is DOWN. False: it was". */
    private static void downs() {
        House x = new House(20);
        Check.due("down", x.down(), true);
        Check.due("it was", x.down(), false);
        x.open();
        Check.due("down", x.down(), true);
        x.open();
        x.put(1, 1);
        x.cut(1, 0);
        x.flush();
        Check.due("it was, by a cut", x.down(), false);
    }

    /** "DOWN: 0, 1, 4, 5 are 0. IndexOutOfBoundsException: another what". */
    private static void tolds() {
        House x = new House(20);
        x.put(1, 1);
        x.flush();
        x.put(2, 2);
        x.mark();
        x.put(3, 3);
        x.get(-1, 1);
        Check.dueTold("up", x, 16, 1, 1, 4, 2, 1, 3, 0);
        Check.indexThrown("told(-1)", () -> x.told(-1));
        Check.indexThrown("told(8)", () -> x.told(8));
        x.down();
        Check.dueTold("DOWN", x, 0, 0, 1, 4, 0, 0, 3, 1);
        Check.indexThrown("told(-1)", () -> x.told(-1));
        Check.indexThrown("told(8)", () -> x.told(8));
        x.open();
        Check.dueTold("opened", x, 16, 0, 3, 4, 2, 0, 3, 0);
    }

    /** "pages written in all (at first 0)". */
    private static void toldAtFirst() {
        House x = new House(20);
        Check.dueTold("at first", x, 18, 0, 0, 0, 0, 0, 1, 0);
        x.put(1, 1);
        Check.dueTold("a put", x, 18, 1, 0, 0, 0, 0, 1, 0);
        x.flush();
        Check.dueTold("a flush", x, 17, 0, 0, 2, 1, 0, 2, 0);
    }

    /** "GENERATION (of the HEAD written, but not cut, or opened, last)". */
    private static void toldGeneration() {
        House x = new House(20);
        x.put(1, 1);
        x.flush();
        Check.due("written", x.told(6), 2);
        x.put(2, 2);
        x.cut(2, 127);
        x.flush();
        Check.due("cut", x.told(6), 2);
        x.open();
        Check.due("opened", x.told(6), 2);
        x.put(2, 2);
        x.flush();
        Check.due("written", x.told(6), 3);
        x.poke(1, 0, 1);
        x.down();
        Check.due("DOWN", x.told(6), 3);
        x.open();
        Check.due("the older one is opened", x.told(6), 2);
        x.poke(0, 0, 1);
        x.down();
        Check.due("none can be", x.open(), -1);
        Check.due("so it stays", x.told(6), 2);
    }
}
