/** Section 2 without OPEN, sentence by sentence: on either side of each boundary that it names. */
final class RunsEdgeTest {
    private static final int REFUSED = -1000000;
    private static final int CUT = -2000000;
    private static final long MOST = Long.MAX_VALUE;
    private static final long LEAST = Long.MIN_VALUE;
    // Keys in this step share no octet: with values of one octet 11 octets each, 10 a page.
    private static final long SPREAD = 1L << 56;

    public static void main(String[] args) {
        tableOf64();
        oneEntryAKey();
        sumsGoRound();
        sumsGoRoundInRuns();
        sixOfLevelNought();
        allNine();
        allNineMerged();
        mergeWithoutTheTable();
        eightPages();
        eightPagesBeforeLevelTwo();
        twentyFourPages();
        twentyFourPagesBeforeLevelThree();
        levelOneIsTaken();
        noneOlder();
        noneOlderAsPagesAreCounted();
        noneOlderAsPagesAreCountedOnceMore();
        addsThatAreLeft();
        noneIsMade();
        takenAreGone();
        pagesThatAMarkHas();
        pagesTakenAreNotFree();
        upToTheFirstBad();
        olderLevelsReadWhenTaken();
        pagesFirstThenTheHead();
        firstOctetsAlone();
        downAtOnce();
        mergeCutAtOnce();
        writesCounted();
        Check.end("RunsEdgeTest");
    }

    /** RUNS of LEVEL 0 of so many keys (first .. first + count - 1, in steps of SPREAD, then plus an offset). */
    private static void spread(House x, int first, int count, long offset) {
        for (int i = 0; i < count; i += 64) {
            x.many(1, Math.min(64, count - i), (first + i) * SPREAD + offset, SPREAD);
            x.flush();
        }
    }

    /** "THE TABLE has 64 ENTRIES at most". */
    private static void tableOf64() {
        for (int kind = 1; kind <= 3; kind++) {
            House x = new House(20);
            Check.due("63", x.many(kind, 63, 0, 1), 63);
            Check.due("the 64th", one(x, kind, 63), 64);
            int of = kind;
            Check.stateThrown("the 65th", () -> one(x, of, 64));
            Check.due("one of the 64", one(x, kind, 0), 64);
            Check.due("table", x.told(1), 64);
        }
    }

    private static int one(House x, int kind, long key) {
        return kind == 1 ? x.put(key, 1) : kind == 2 ? x.remove(key) : x.fold(key, 1);
    }

    /** "one a key. A PUT, an END come in place of the one there. An ADD v: on a PUT .., END .., ADD .., none". */
    private static void oneEntryAKey() {
        int[][] kinds = {{0, 1, 1}, {0, 2, 2}, {0, 3, 3}, {1, 1, 1}, {1, 2, 2}, {1, 3, 1}, {2, 1, 1}, {2, 2, 2},
            {2, 3, 1}, {3, 1, 1}, {3, 2, 2}, {3, 3, 3}};
        int[] values = {7, 0, 7, 7, 0, 12, 7, 0, 7, 7, 0, 12};
        for (int i = 0; i < kinds.length; i++) {
            House x = new House(6);
            if (kinds[i][0] > 0) {
                enter(x, kinds[i][0], 5);
            }
            Check.due("one", enter(x, kinds[i][1], 7), 1);
            x.flush();
            String what = kinds[i][1] + " on " + kinds[i][0];
            Check.due(what + ": ENTRIES", x.run(0, 3), 1);
            Check.due(what + ": kind", x.octet(2, 14), kinds[i][2]);
            Check.due(what + ": V", x.octet(2, 15), 2 * values[i]);
        }
    }

    private static int enter(House x, int kind, long value) {
        return kind == 1 ? x.put(1, value) : kind == 2 ? x.remove(1) : x.fold(1, value);
    }

    /** "their sum (64 bits, round)". */
    private static void sumsGoRound() {
        long[][] cases = {{MOST - 1, 1, MOST}, {MOST, 1, LEAST}, {LEAST + 1, -1, LEAST}, {LEAST, -1, MOST},
            {LEAST, LEAST, 0}, {MOST, MOST, -2}};
        for (long[] c : cases) {
            House x = new House(6);
            x.put(1, c[0]);
            x.fold(1, c[1]);
            x.fold(2, c[0]);
            x.fold(2, c[1]);
            Check.due("ADD on PUT", x.get(-1, 1), c[2]);
            Check.due("ADD on ADD", x.get(-1, 2), c[2]);
        }
    }

    private static void sumsGoRoundInRuns() {
        long[][] cases = {{MOST - 1, 1, MOST}, {MOST, 1, LEAST}, {LEAST + 1, -1, LEAST}, {LEAST, -1, MOST}};
        for (long[] c : cases) {
            House x = new House(10);
            x.put(1, c[0]);
            x.fold(2, c[0]);
            x.flush();
            x.fold(1, c[1]);
            x.fold(2, c[1]);
            x.flush();
            for (int merged = 0; merged < 2; merged++) {
                Check.due("PUT, then ADD", x.get(-1, 1), c[2]);
                Check.due("ADD, then ADD", x.get(-1, 2), c[2]);
                Check.due("range", x.range(-1, 1, 2), 2);
                Check.due("of both", x.at(0, 1), c[2]);
                Check.due("of both", x.at(1, 1), c[2]);
                x.merge();
            }
        }
    }

    /** "of LEVEL 0 up to 6, newest first; of each other one at most, behind". */
    private static void sixOfLevelNought() {
        House x = new House(20);
        x.put(0, 0);
        x.flush();
        x.merge();
        for (int i = 1; i <= 6; i++) {
            x.put(i, i);
            Check.due("the " + i + "th of LEVEL 0", x.flush(), i + 2);
            Check.due("is the newest", x.run(0, 0), i + 2);
            Check.due("before that of LEVEL 1", x.run(i, 1), 1);
        }
        x.put(7, 7);
        Check.due("a 7th", x.flush(), SortedRuns.NONE);
        Check.due("RUNS", x.told(4), 7);
        x.merge();
        Check.due("one of LEVEL 1", x.told(4), 1);
        Check.due("and now there is place", x.flush(), 10);
    }

    /** 6 of LEVEL 0 and one of each other, with some 40 keys each in the newer ones. */
    private static House nineRuns(int keys) {
        House x = new House(300);
        spread(x, -128, 250, 0);
        x.merge();
        spread(x, -128, 100, 1);
        x.merge();
        spread(x, -128, 10, 2);
        x.merge();
        for (int i = 0; i < 6; i++) {
            spread(x, -128 + 42 * i, keys, 3);
        }
        Check.due("RUNS", x.told(4), 9);
        int[] levels = {0, 0, 0, 0, 0, 0, 1, 2, 3};
        for (int i = 0; i < 9; i++) {
            Check.due("LEVEL of the " + i + "th", x.run(i, 1), levels[i]);
        }
        return x;
    }

    /** As many RUNS as there can be, and the table. */
    private static void allNine() {
        House x = nineRuns(1);
        Check.due("mark", x.mark(), 0);
        x.put(5, 5);
        Check.due("all of now", x.range(-1, LEAST, MOST), 250 + 100 + 10 + 6 + 1);
        Check.due("all of the MARK", x.range(0, LEAST, MOST), 250 + 100 + 10 + 6);
        Check.due("the oldest", x.get(-1, 100 * SPREAD), 36);
        Check.due("the oldest, of the MARK", x.get(0, 100 * SPREAD), 36);
        Check.due("no FLUSH can be", x.flush(), SortedRuns.NONE);
        x.down();
        Check.due("open", x.open(), 9);
        Check.due("all", x.range(-1, LEAST, MOST), 250 + 100 + 10 + 6);
        int head = x.told(6) % 2;
        Check.due("on the HEAD", x.octet(head, 6), 9);
        for (int i = 0; i < 9; i++) {
            int at = 7 + 7 * i;
            Check.dueOctets("on the HEAD", x, head, at, 0, x.run(i, 0), x.run(i, 1), 0, x.run(i, 4), 0, x.run(i, 2));
        }
        Check.dueOctets("0s behind", x, head, 70, 0, 0, 0, 0, 0, 0, 0, 0);
        Check.due("mark", x.mark(), 0);
        int free = x.told(0);
        Check.due("merge: those of LEVEL 0, 1 stay for the MARK", x.merge(), -2);
        Check.due("release: 7 RUNS of a page each", x.release(0), 7);
        Check.due("FREE", x.told(0), free + 5);
    }

    private static void allNineMerged() {
        House x = nineRuns(42);
        x.put(5, 5);
        x.range(-1, LEAST, LEAST);
        int read = 0;
        for (int i = 0; i < 9; i++) {
            read += x.run(i, 2);
        }
        int before = x.told(2);
        int free = x.told(0);
        int written = x.told(3);
        int merged = x.merge();
        Check.due("READ", x.told(2) - before, read);
        Check.due("FREE", x.told(0), free + merged);
        Check.due("written", x.told(3) - written, x.run(0, 2) + 1);
        Check.due("RUNS", x.told(4), 1);
        Check.due("LEVEL", x.run(0, 1), 3);
        Check.due("ENTRIES, not that of the table", x.run(0, 3), 250 + 100 + 10 + 252);
        Check.due("pages", x.run(0, 2), read - merged);
        Check.dueOctets("0s behind the one RUN", x, x.told(6) % 2, 14, 0, 0, 0, 0, 0, 0, 0, 0, 0, 0, 0, 0, 0, 0);
    }

    /** A range that ends before the table does leaves nothing of it to a MERGE. */
    private static void mergeWithoutTheTable() {
        House x = new House(40);
        x.put(1, 1);
        x.flush();
        x.put(2, 2);
        x.flush();
        x.put(3, 3);
        x.put(4, 4);
        Check.due("range", x.range(-1, 0, 0), 0);
        Check.due("merge", x.merge(), 1);
        Check.due("ENTRIES", x.run(0, 3), 2);
        Check.due("range of the MARK", x.range(-1, 0, 9), 4);
        x.range(-1, 0, 1);
        Check.due("flush", x.flush(), 4);
        Check.due("ENTRIES", x.run(0, 3), 2);
    }

    /** "if that would have more than 8 pages, that of LEVEL 2 is taken as well, and it is of LEVEL 2". */
    private static void eightPages() {
        int[] keys = {80, 81};
        for (int count : keys) {
            House x = new House(60);
            spread(x, -128, count, 0);
            Check.due(count + " keys: merged", x.merge() > REFUSED, true);
            Check.due("pages", x.run(0, 2), count == 80 ? 8 : 9);
            Check.due("LEVEL", x.run(0, 1), count == 80 ? 1 : 2);
            Check.due("RUNS", x.told(4), 1);
        }
    }

    private static void eightPagesBeforeLevelTwo() {
        int[] keys = {80, 81};
        for (int count : keys) {
            House x = new House(90);
            spread(x, -128, 90, 0);
            x.merge();
            Check.due("LEVEL 2 is there", x.run(0, 1), 2);
            spread(x, 0, count, 0);
            int read = x.told(2);
            x.merge();
            Check.due(count + " keys: READ", x.told(2) - read, count == 80 ? 9 : 9 + 9);
            Check.due("RUNS", x.told(4), count == 80 ? 2 : 1);
            Check.due("LEVEL", x.run(0, 1), count == 80 ? 1 : 2);
            Check.due("ENTRIES", x.run(0, 3), count == 80 ? 80 : 171);
        }
    }

    /** "if that would have more than 24: that of LEVEL 3, too, and it is of LEVEL 3". */
    private static void twentyFourPages() {
        int[] keys = {240, 241};
        for (int count : keys) {
            House x = new House(90);
            spread(x, -128, count, 0);
            Check.due(count + " keys: merged", x.merge() > REFUSED, true);
            Check.due("pages", x.run(0, 2), count == 240 ? 24 : 25);
            Check.due("LEVEL", x.run(0, 1), count == 240 ? 2 : 3);
            Check.due("RUNS", x.told(4), 1);
        }
    }

    private static void twentyFourPagesBeforeLevelThree() {
        int[] keys = {140, 141};
        for (int count : keys) {
            House x = new House(300);
            spread(x, -128, 250, 0);
            x.merge();
            Check.due("LEVEL 3 is there", x.run(0, 1), 3);
            spread(x, -128, 100, 1);
            x.merge();
            Check.due("LEVEL 2 is there", x.run(0, 1), 2);
            Check.due("and LEVEL 3", x.run(1, 1), 3);
            spread(x, -28, count, 1);
            int read = x.told(2);
            x.merge();
            // Tables of 64 keys have 7 pages, one of 12 or 13 keys has 2.
            int taken = 7 + 7 + 2 + 10;
            Check.due(count + " keys: READ", x.told(2) - read, count == 140 ? taken : taken + 25);
            Check.due("RUNS", x.told(4), count == 140 ? 2 : 1);
            Check.due("LEVEL", x.run(0, 1), count == 140 ? 2 : 3);
            Check.due("ENTRIES", x.run(0, 3), count == 140 ? 240 : 250 + 241);
        }
    }

    /** "all of LEVEL 0 and that of LEVEL 1 become one", also when only one of LEVEL 0 is there. */
    private static void levelOneIsTaken() {
        House x = new House(60);
        Check.due("nothing of LEVEL 0", x.merge(), REFUSED);
        spread(x, 0, 10, 0);
        Check.due("one of LEVEL 0", x.merge(), 0);
        Check.due("LEVEL", x.run(0, 1), 1);
        Check.due("nothing of LEVEL 0", x.merge(), REFUSED);
        spread(x, 10, 10, 0);
        Check.due("and that of LEVEL 1", x.merge(), 0);
        Check.due("RUNS", x.told(4), 1);
        Check.due("ENTRIES", x.run(0, 3), 20);
    }

    /** "When no RUN of now is older than those taken .., END is left out". */
    private static void noneOlder() {
        for (int older = 0; older < 2; older++) {
            House x = new House(90);
            if (older == 1) {
                spread(x, 0, 90, 0);
                x.merge();
            }
            x.remove(1);
            x.put(2, 2);
            x.flush();
            x.merge();
            Check.due("an older RUN: " + older + ", ENTRIES", x.run(0, 3), 1 + older);
            Check.due("kind of the first", x.octet(x.run(0, 4), 14), older == 1 ? 2 : 1);
            Check.due("LEVEL", x.run(0, 1), 1);
            x.get(-1, 1);
            Check.due("state", x.state(), older == 1 ? 2 : 0);
        }
    }

    /** "(so, too, as its pages are counted)": 80 PUTS have 8 pages, an END behind them needs a 9th. */
    private static void noneOlderAsPagesAreCounted() {
        for (int older = 0; older < 2; older++) {
            House x = new House(200);
            if (older == 1) {
                spread(x, -128, 250, 1);
                x.merge();
                Check.due("LEVEL 3 is there", x.run(0, 1), 3);
            }
            spread(x, 0, 80, 0);
            x.remove(81 * SPREAD);
            x.flush();
            x.merge();
            Check.due("an older RUN: " + older + ", LEVEL", x.run(0, 1), older == 1 ? 2 : 1);
            Check.due("pages", x.run(0, 2), older == 1 ? 9 : 8);
            Check.due("ENTRIES", x.run(0, 3), 80 + older);
        }
    }

    /** The same where LEVEL 3 would come to be taken: 240 PUTS have 24 pages. */
    private static void noneOlderAsPagesAreCountedOnceMore() {
        for (int older = 0; older < 2; older++) {
            House x = new House(200);
            if (older == 1) {
                spread(x, -128, 250, 1);
                x.merge();
            }
            spread(x, -128, 240, 0);
            x.remove(113 * SPREAD);
            x.flush();
            x.merge();
            Check.due("an older RUN: " + older + ", LEVEL", x.run(0, 1), older == 1 ? 3 : 2);
            Check.due("ENTRIES: the END is left out", x.run(0, 3), older == 1 ? 490 : 240);
            Check.due("RUNS", x.told(4), 1);
        }
    }

    /** "an ADD that is left becomes a PUT". */
    private static void addsThatAreLeft() {
        for (int older = 0; older < 2; older++) {
            House x = new House(90);
            if (older == 1) {
                spread(x, 1, 90, 0);
                x.merge();
            }
            x.fold(1, 5);
            x.flush();
            x.fold(1, 6);
            x.flush();
            x.merge();
            int page = x.run(0, 4);
            Check.dueOctets("an older RUN: " + older, x, page, 14, older == 1 ? 3 : 1, 22, 0);
            Check.due("its value", x.get(-1, 1), 11);
        }
    }

    /** "It has the next number, or there is none (no ENTRIES: no number either)". */
    private static void noneIsMade() {
        for (int left = 0; left < 2; left++) {
            House x = new House(20);
            x.put(1, 1);
            x.put(2, 2);
            x.flush();
            x.remove(1);
            if (left == 0) {
                x.remove(2);
            }
            x.flush();
            int written = x.told(3);
            Check.due("ENTRIES left: " + left + ", merge", x.merge(), 2 - left);
            Check.due("RUNS", x.told(4), left);
            Check.due("written", x.told(3) - written, 1 + left);
            Check.dueOctets("HEAD", x, 0, 0, 0, 0, 0, 4, 0, 3 + left, left);
            x.put(3, 3);
            Check.due("the next number", x.flush(), 3 + left);
        }
    }

    /** The RUNS taken are none of now any more, nor of a MARK that comes later. */
    private static void takenAreGone() {
        House x = new House(20);
        x.put(1, 1);
        x.flush();
        x.remove(1);
        x.put(2, 2);
        x.flush();
        Check.due("merge", x.merge(), 1);
        int read = x.told(2);
        Check.due("get", x.get(-1, 1), 0);
        Check.due("state", x.state(), 0);
        Check.due("hidden", x.hidden(1), false);
        Check.due("READ", x.told(2), read);
        Check.due("range", x.range(-1, LEAST, MOST), 1);
        Check.due("READ", x.told(2), read + 1);
        Check.due("mark", x.mark(), 0);
        Check.due("get of the MARK", x.get(0, 1), 0);
        Check.due("state", x.state(), 0);
        Check.due("range of the MARK", x.range(0, LEAST, MOST), 1);
        Check.due("READ", x.told(2), read + 2);
        x.poke(2, 0, 1);
        Check.due("page 2 is FREE", x.badAt(), SortedRuns.NONE);
        Check.due("release", x.release(0), 0);
        Check.due("FREE", x.told(0), 17);
        x.remove(2);
        x.flush();
        Check.due("merge to nothing", x.merge(), 2);
        Check.due("FREE", x.told(0), 18);
        x.get(-1, 2);
        Check.due("state", x.state(), 0);
        Check.due("mark of no RUNS", x.mark(), 0);
        Check.due("FREE", x.told(0), 18);
        Check.due("range", x.range(0, LEAST, MOST), 0);
        Check.due("release", x.release(0), 0);
    }

    /** "the pages of those taken are FREE then, unless a MARK has these". */
    private static void pagesThatAMarkHas() {
        for (int marks = 0; marks < 2; marks++) {
            House x = new House(20);
            x.put(1, 1);
            x.flush();
            if (marks == 1) {
                x.mark();
            }
            x.put(2, 2);
            x.flush();
            Check.due("MARKS: " + marks + ", merge", x.merge(), 1 - marks);
            Check.due("FREE", x.told(0), 17 - marks);
            x.put(3, 3);
            x.flush();
            Check.due("page", x.run(0, 4), 2 + marks);
        }
    }

    /** "While its pages are looked for, those of the RUNS taken are not FREE". */
    private static void pagesTakenAreNotFree() {
        int[] pages = {8, 7};
        for (int count : pages) {
            House x = new House(count);
            spread(x, 0, 20, 0);
            spread(x, 20, 10, 0);
            Check.due("FREE", x.told(0), count - 5);
            int merged = x.merge();
            Check.due(count + " pages: 3 are needed", merged, count == 8 ? 0 : REFUSED);
            Check.due("READ", x.told(2), 3);
            Check.due("written", x.told(3), count == 8 ? 5 + 4 : 5);
            Check.due("RUNS", x.told(4), count == 8 ? 1 : 2);
            Check.due("FREE", x.told(0), count - 5);
        }
    }

    /** "Their pages are READ, newest RUN first, each once, up to the first BAD one". */
    private static void upToTheFirstBad() {
        // In the order of READING: RUN 3 on 6, 7; RUN 2 on 4, 5; RUN 1 on 2, 3.
        int[] order = {6, 7, 4, 5, 2, 3};
        for (int bad = 0; bad <= order.length; bad++) {
            House x = new House(30);
            spread(x, 0, 20, 0);
            spread(x, 20, 20, 0);
            spread(x, 40, 20, 0);
            if (bad < order.length) {
                x.poke(order[bad], 60, 1);
            }
            Check.due("BAD: " + bad, x.merge(), bad < order.length ? REFUSED : 0);
            Check.due("READ", x.told(2), bad < order.length ? bad + 1 : 6);
            Check.due("RUNS", x.told(4), bad < order.length ? 3 : 1);
        }
    }

    /** "those of LEVEL 2, 3 when it comes to be taken". */
    private static void olderLevelsReadWhenTaken() {
        int[] keys = {80, 81};
        for (int count : keys) {
            House x = new House(90);
            spread(x, -128, 90, 0);
            x.merge();
            spread(x, 0, 10, 0);
            x.merge();
            Check.due("LEVEL 1", x.run(0, 1), 1);
            Check.due("LEVEL 2", x.run(1, 1), 2);
            x.poke(x.run(1, 4), 7, 1);
            spread(x, 10, count - 10, 0);
            int read = x.told(2);
            Check.due(count + " keys", x.merge(), count == 80 ? 1 : REFUSED);
            Check.due("READ", x.told(2) - read, count == 80 ? 7 + 1 + 1 : 7 + 1 + 1 + 1);
        }
    }

    /** "then the HEAD of the GENERATION that comes next (all pages of the RUN first, in order)". */
    private static void pagesFirstThenTheHead() {
        for (int m = 1; m <= 5; m++) {
            House x = new House(20);
            x.many(1, 30, 0, SPREAD);
            x.cut(m, 4);
            Check.due("cut in WRITE " + m, x.flush(), m < 5 ? 0 : 1);
            for (int page = 2; page < 5; page++) {
                boolean begun = m >= page - 1;
                boolean whole = m > page - 1;
                Check.due("page " + page + " is begun", x.octet(page, 1), begun ? 1 : 0);
                Check.due("page " + page + " has ENTRIES", x.octet(page, 4), whole ? 10 : 0);
            }
            Check.due("the HEAD is begun", x.octet(0, 3), m < 4 ? 0 : 2);
            Check.due("the HEAD has a RUN", x.octet(0, 6), m < 5 ? 0 : 1);
            Check.due("DOWN", x.told(7), m < 5 ? 1 : 0);
            Check.due("written", x.told(3), Math.min(m, 4));
        }
    }

    /** "the m-th page from then on gets its first k octets alone, the others stay". */
    private static void firstOctetsAlone() {
        House whole = filled(0, 0);
        int[] before = Check.page(whole, 4);
        whole.flush();
        int[] after = Check.page(whole, 4);
        int[] behind = {0, 1, 2, 5, 14, 119, 120, 121, 126, 127};
        for (int k : behind) {
            House x = filled(1, k);
            Check.due("cut", x.flush(), 0);
            for (int i = 0; i < 128; i++) {
                Check.due("k = " + k + ": octet " + i, x.octet(4, i), i < k ? after[i] : before[i]);
            }
            Check.due("open", x.open(), 2);
            Check.due("page 4 is FREE", x.told(0), 4);
        }
    }

    /** Page 4 has what is left of a RUN that is merged away; the table goes there next, its m-th WRITE is cut. */
    private static House filled(int m, int k) {
        House x = new House(10);
        x.put(1, 5);
        x.flush();
        x.put(3, 3);
        x.flush();
        x.many(3, 30, 255, 256);
        x.flush();
        x.merge();
        Check.due("4 was the first page of the third", x.octet(4, 1), 3);
        Check.due("the merged RUN is behind it", x.run(0, 4), 6);
        x.many(1, 11, 0, SPREAD);
        x.flush();
        Check.due("pages 2, 3", x.run(0, 4) + x.run(0, 2), 4);
        x.many(1, 27, 77, 1);
        x.cut(m, k);
        return x;
    }

    /** "all is DOWN at once: the table, MARKS, filters are gone; nothing else is done in that call". */
    private static void downAtOnce() {
        for (int m = 1; m <= 3; m++) {
            House x = new House(20);
            x.put(0, 0);
            x.put(100, 1);
            x.mark();
            x.put(5, 5);
            x.cut(m, 127);
            Check.due("flush", x.flush(), m < 3 ? 0 : 2);
            if (m < 3) {
                Check.dueTold("cut in WRITE " + m, x, 0, 0, 0, 2 + m, 0, 0, 2, 1);
                Check.stateThrown("no filter", () -> x.hidden(50));
                Check.stateThrown("no MARK", () -> x.get(0, 0));
                Check.indexThrown("no RUN", () -> x.run(0, 0));
            } else {
                Check.dueTold("not cut", x, 16, 0, 0, 4, 2, 1, 3, 0);
                Check.due("filter", x.hidden(50), true);
                Check.due("MARK", x.get(0, 100), 1);
            }
        }
    }

    /** "nothing else is done in that call": many() neither flushes behind a MERGE that is cut nor goes on. */
    private static void mergeCutAtOnce() {
        for (int m = 0; m <= 1; m++) {
            House x = new House(200);
            x.many(1, 64 * 7, 0, 1);
            int written = x.told(3);
            x.cut(m, 9);
            Check.due("many", x.many(1, 2, 5000, 1), m == 1 ? 0 : 2);
            Check.due("DOWN", x.told(7), m);
            Check.due("RUNS", x.told(4), m == 1 ? 0 : 2);
            Check.due("written: more than one", x.told(3) - written > 1, m == 0);
        }
        House y = new House(20);
        y.put(1, 1);
        y.flush();
        y.remove(1);
        y.flush();
        y.cut(1, 0);
        Check.due("a MERGE to nothing writes the HEAD alone", y.merge(), CUT);
        Check.due("GENERATION", y.told(6), 3);
        Check.due("opened as it was", y.open(), 2);
    }

    /** "Pages READ are those of RUNS alone; pages written are HEADS, too, and a page that is cut". */
    private static void writesCounted() {
        House x = new House(20);
        x.put(1, 1);
        x.flush();
        x.put(2, 2);
        x.cut(2, 0);
        x.flush();
        Check.due("written: 2, then 2 of which one is cut", x.told(3), 4);
        Check.due("READ", x.told(2), 0);
        x.open();
        Check.due("open READS no HEAD, but the page", x.told(2), 1);
        Check.due("written", x.told(3), 4);
        x.get(-1, 1);
        x.badAt();
        Check.due("READ", x.told(2), 2);
    }
}
