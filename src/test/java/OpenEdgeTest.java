import java.util.Arrays;
import java.util.List;

/**
 * OPEN (section 2) and promise 21, by calls alone: what makes a HEAD right or a page wrong, on either side of each
 * boundary. What calls can not bring about, ForgedTest has.
 */
final class OpenEdgeTest {
    // RUN 2 of the HEAD that is opened at the end; it has the pages from 3 on.
    private static final int NUMBER = 2;
    private static final int PAGE = 3;
    private static final int WELL = 2;
    private static final int WRONG = -2 - PAGE;

    /** A page that a FLUSH would write, of which the first octets are laid upon the page. */
    private static final class Piece {
        final List<Model.Entry> entries;
        final int behind;

        Piece(int behind, Model.Entry... entries) {
            this.entries = Arrays.asList(entries);
            this.behind = behind;
        }

        int[] octets() {
            List<List<Model.Entry>> layout = Model.layout(entries);
            int[] octets = Model.pageOctets(NUMBER, layout.size() > 1 ? PAGE + 1 : 0, layout.get(0));
            Model.seal(octets, PAGE);
            return octets;
        }

        void enter(House x) {
            for (Model.Entry e : entries) {
                if (e.kind == 1) {
                    x.put(e.key, e.value);
                } else if (e.kind == 2) {
                    x.remove(e.key);
                } else {
                    x.fold(e.key, e.value);
                }
            }
        }
    }

    public static void main(String[] args) {
        headSum();
        headGeneration();
        headOfTheGreaterGeneration();
        noHeadIsRight();
        notDown();
        everyPageOnce();
        openedOnceMore();
        pageSum();
        pageOfAnotherRun();
        pageMissing();
        keysRiseFromThePageBefore();
        keysRiseInThePage();
        noughtsBehind();
        entriesCounted();
        entriesOverTheEnd();
        octetsShared();
        kinds();
        valueShortest();
        valueOf64Bits();
        staysDown();
        Check.end("OpenEdgeTest");
    }

    private static Model.Entry put(long key, long value) {
        return new Model.Entry(key, 1, value);
    }

    private static Model.Entry end(long key) {
        return new Model.Entry(key, 2, 0);
    }

    // ---- heads

    private static House twoHeads() {
        House x = new House(20);
        x.put(1, 1);
        x.flush();
        x.put(2, 2);
        x.flush();
        return x;
    }

    /** "of the HEADS that are right (SUM; ..": any octet of 128. */
    private static void headSum() {
        int[] octets = {0, 3, 6, 100, 119, 120, 127};
        for (int i : octets) {
            House x = twoHeads();
            x.down();
            Check.due("right", x.open(), 2);
            x.poke(1, i, 128);
            x.down();
            Check.due("octet " + i + " is another: the other HEAD", x.open(), 1);
            Check.due("GENERATION", x.told(6), 2);
        }
    }

    /** ".. GENERATION above 0 ..": page 0 is all 0s at first, of which the SUM is right. */
    private static void headGeneration() {
        House x = new House(20);
        Check.dueSum("page 0", x, 0, true);
        x.down();
        Check.due("GENERATION 1", x.open(), 0);
        Check.due("GENERATION", x.told(6), 1);
        x.poke(1, 127, 1);
        x.down();
        Check.due("GENERATION 0 is none", x.open(), -1);
    }

    /** ".. the one with the greater GENERATION", be it on page 0 or 1. */
    private static void headOfTheGreaterGeneration() {
        House x = new House(20);
        for (int generation = 2; generation < 6; generation++) {
            x.put(generation, 1);
            x.flush();
            x.down();
            Check.due("RUNS", x.open(), generation - 1);
            Check.due("GENERATION", x.told(6), generation);
        }
    }

    /** "-1: no HEAD is right". */
    private static void noHeadIsRight() {
        House x = twoHeads();
        x.down();
        x.poke(0, 9, 1);
        Check.due("one is", x.open(), 2);
        x.down();
        x.poke(1, 9, 1);
        Check.due("none is", x.open(), -1);
        Check.dueTold("none is", x, 0, 0, 2, 4, 0, 0, 3, 1);
        Check.due("none still", x.open(), -1);
    }

    /** "IllegalStateException: it is not DOWN". */
    private static void notDown() {
        House x = twoHeads();
        Check.stateThrown("not DOWN", () -> x.open());
        x.down();
        Check.due("DOWN", x.open(), 2);
        Check.stateThrown("not DOWN any more", () -> x.open());
        x.put(5, 5);
        x.cut(1, 50);
        x.flush();
        Check.due("DOWN by a cut", x.open(), 2);
        Check.stateThrown("not DOWN any more", () -> x.open());
    }

    // ---- pages

    /** "its RUNS' pages are read, RUN by RUN, in order, each once (each counts as READ)". */
    private static void everyPageOnce() {
        // Newest first: RUN 2 on 5, 6; RUN 1 on 2, 3, 4.
        int[] order = {5, 6, 2, 3, 4};
        for (int bad = 0; bad <= order.length; bad++) {
            House x = new House(20);
            x.many(1, 60, 0, 1);
            x.flush();
            x.many(1, 40, 0, 1);
            x.flush();
            for (int i = bad; i < order.length; i++) {
                x.poke(order[i], 77, 1);
            }
            x.down();
            Check.due("the first that is wrong", x.open(), bad < order.length ? -2 - order[bad] : 2);
            Check.due("READ", x.told(2), Math.min(bad + 1, order.length));
            Check.due("DOWN", x.told(7), bad < order.length ? 1 : 0);
            Check.due("RUNS", x.told(4), bad < order.length ? 0 : 2);
            if (bad < order.length) {
                Check.indexThrown("no RUN, not even one that was READ well", () -> x.run(0, 0));
                Check.due("FREE", x.told(0), 0);
            }
        }
    }

    /** What was looked up, or opened in vain, before it is of no account. */
    private static void openedOnceMore() {
        House x = new House(20);
        x.many(1, 60, 0, 1);
        x.flush();
        long[] keys = {0, 1, 26, 27, 58, 59};
        for (long key : keys) {
            Check.due("get", x.get(-1, key), key);
            x.down();
            Check.due("open", x.open(), 1);
            Check.due("ENTRIES", x.run(0, 3), 60);
        }
        House y = begun(40);
        y.many(1, 40, 1, 1);
        y.cut(2, 0);
        y.flush();
        y.open();
        Check.due("wrong", opened(y), -2 - 4);
        Check.due("wrong once more", y.open(), -2 - 4);
        y.poke(1, 0, 1);
        Check.due("the older HEAD", y.open(), 1);
        y.many(1, 40, 0, 1);
        Check.due("flush", y.flush(), 2);
        y.down();
        Check.due("well", y.open(), 2);
        Check.due("ENTRIES", y.run(0, 3), 40);
    }

    /** "its SUM is wrong". */
    private static void pageSum() {
        int[] octets = {0, 4, 5, 119, 120, 127};
        for (int i : octets) {
            House x = twoHeads();
            x.down();
            Check.due("right", x.open(), 2);
            x.down();
            x.poke(2, i, 1);
            Check.due("octet " + i + " is another", x.open(), -2 - 2);
        }
    }

    /** "its RUN's number is another one (an older HEAD may name pages that were given to others since)". */
    private static void pageOfAnotherRun() {
        for (int given = 0; given < 2; given++) {
            House x = twoHeads();
            x.merge();
            // The older HEAD has RUNS on pages 3, 2, which are FREE now.
            if (given == 1) {
                x.put(3, 3);
                x.cut(2, 0);
                Check.due("RUN 4 goes to page 2, its HEAD is cut", x.flush(), 0);
            } else {
                x.down();
            }
            x.poke(0, 50, 1);
            int read = x.told(2);
            Check.due("given: " + given, x.open(), given == 1 ? -2 - 2 : 2);
            Check.due("READ", x.told(2) - read, 2);
        }
    }

    /**
     * RUN 1, of an END alone, on page 2; RUN 2 on the pages from 3 on; then the newer HEAD is made wrong, and the
     * older one opened, so that the pages of RUN 2 are FREE and what is flushed goes there.
     */
    private static House begun(int keys) {
        House x = new House(20);
        x.remove(0);
        x.flush();
        x.many(1, keys, 0, 1);
        Check.due("RUN 2", x.flush(), NUMBER);
        Check.due("on page 3", x.run(0, 4), PAGE);
        x.poke(1, 0, 1);
        x.down();
        Check.due("the older HEAD", x.open(), 1);
        return x;
    }

    /** A MERGE to nothing would write the newer HEAD's page; cut behind one octet it makes that HEAD right again. */
    private static int opened(House x) {
        x.cut(1, 1);
        Check.due("the merge is cut", x.merge(), -2000000);
        return x.open();
    }

    /** "when it is 0, 1 (its RUN should have more)". */
    private static void pageMissing() {
        int[] keys = {28, 27};
        for (int count : keys) {
            House x = begun(40);
            x.many(1, count, 0, 1);
            x.cut(2, 0);
            Check.due("page 3 is another one, of " + count + " keys", x.flush(), 0);
            x.open();
            Check.due("its next page", x.octet(PAGE, 3), count == 28 ? 4 : 0);
            int read = x.told(2) + 1; // the merge READS page 2
            Check.due("opened", opened(x), count == 28 ? WELL : -2);
            Check.due("READ", x.told(2) - read, count == 28 ? 3 : 2);
        }
    }

    /** "with KEYS that rise, also from the RUN's page before". */
    private static void keysRiseFromThePageBefore() {
        int[] firsts = {-1, 0, 1, 2};
        for (int first : firsts) {
            House x = begun(40);
            x.many(1, 40, first, 1);
            x.cut(2, 0);
            Check.due("page 3 is another one", x.flush(), 0);
            x.open();
            int read = x.told(2) + 1;
            // Page 3 has 27 keys, page 4 begins with 27.
            Check.due("last key " + (first + 26), opened(x), first < 1 ? WELL : -2 - 4);
            Check.due("READ", x.told(2) - read, first < 1 ? 3 : 2);
        }
    }

    /** Lays the pieces upon page 3, each cut behind fewer octets than the one before, so that its SUM is right. */
    private static House laid(Piece... pieces) {
        int[] due = new int[128];
        for (Piece piece : pieces) {
            System.arraycopy(piece.octets(), 0, due, 0, piece.behind);
        }
        Model.seal(due, PAGE);
        House x = begun(1);
        int last = x.octet(PAGE, 127);
        if (last != due[127]) {
            x.poke(PAGE, 127, last ^ due[127]);
        }
        for (int behind = 127; behind > 120; behind--) {
            lay(x, withOctet(behind, due[behind - 1]));
        }
        for (Piece piece : pieces) {
            lay(x, piece);
        }
        Check.dueOctets("laid", x, PAGE, 0, due);
        return x;
    }

    private static void lay(House x, Piece piece) {
        piece.enter(x);
        x.cut(1, piece.behind);
        Check.due("cut", x.flush(), 0);
        Check.due("opened", x.open(), 1);
    }

    /** A page whose last octet before the cut is this one. */
    private static Piece withOctet(int behind, int octet) {
        for (int value = 0; value < 100000; value++) {
            Piece piece = new Piece(behind, put(0, value));
            if (piece.octets()[behind - 1] == octet) {
                return piece;
            }
        }
        throw new AssertionError("no such page");
    }

    private static void dueOpened(String what, int answer, Piece... pieces) {
        House x = laid(pieces);
        int read = x.told(2) + 1;
        Check.due(what, opened(x), answer);
        Check.due(what + ": READ", x.told(2) - read, answer == WELL ? 2 : 1);
        Check.due(what + ": DOWN", x.told(7), answer == WELL ? 0 : 1);
    }

    /** "with KEYS that rise": the second ENTRY is 7 octets as before, and a 5. */
    private static void keysRiseInThePage() {
        int[] firsts = {3, 4, 5, 6};
        for (int first : firsts) {
            dueOpened(first + ", then 5", first < 5 ? WELL : WRONG,
                    new Piece(120, end(1), end(5)), new Piece(14, end(first), end(first + 1)));
        }
    }

    /** "how many ENTRIES, these, 0s". */
    private static void noughtsBehind() {
        dueOpened("0s", WELL, new Piece(120, put(1, 1)), new Piece(16, put(1, 2)));
        dueOpened("what is left of a second one", WRONG, new Piece(120, put(1, 1), end(2)), new Piece(16, put(1, 2)));
        dueOpened("a last octet", WRONG, new Piece(120, ends(36)), new Piece(119, ends(35)));
        dueOpened("none", WELL, new Piece(120, ends(36)), new Piece(119, ends(36)));
    }

    private static Model.Entry[] ends(int count) {
        Model.Entry[] all = new Model.Entry[count];
        for (int i = 0; i < count; i++) {
            all[i] = end(i);
        }
        return all;
    }

    /** "u1 how many ENTRIES". */
    private static void entriesCounted() {
        int[] counts = {1, 2, 3};
        for (int count : counts) {
            dueOpened("2 ENTRIES, counted " + count, count == 2 ? WELL : WRONG,
                    new Piece(120, put(1, 1), end(2)), new Piece(5, ends(count)));
        }
    }

    /** ENTRIES that are counted but would lie behind the 120 octets. */
    private static void entriesOverTheEnd() {
        Model.Entry[] puts = new Model.Entry[27];
        for (int i = 0; i < 27; i++) {
            puts[i] = put(i, 0);
        }
        dueOpened("27 fill the page", WELL, new Piece(120, puts), new Piece(5, ends(27)));
        dueOpened("a 28th", WRONG, new Piece(120, puts), new Piece(5, ends(28)));
        dueOpened("36", WRONG, new Piece(120, puts), new Piece(5, ends(36)));
    }

    /** "u1 how many octets its KEY shares with that before it", no fewer: the second one is 6, then 1, 2. */
    private static void octetsShared() {
        long[] firsts = {0x0001, 0x00ff, 0x0101};
        for (long first : firsts) {
            dueOpened("6 octets of " + first + " and 258", first < 0x0100 ? WELL : WRONG,
                    new Piece(120, end(1), end(0x0102)), new Piece(14, end(first), end(0x0110)));
        }
        // 7 octets of 257 are more than those of 1, so the second one is another key, but written as told.
        dueOpened("7 octets of 257", WELL, new Piece(120, end(1), end(2)), new Piece(14, end(0x0101), end(0x0110)));
    }

    /** "u1 kind (1 PUT, 2 END, 3 ADD)": of the second ENTRY, on octet 17; all else is as told. */
    private static void kinds() {
        Piece second = new Piece(17, end(0), end(1));
        dueOpened("kind 0", WRONG, new Piece(120, put(0, 0)), second);
        dueOpened("kind 2", WELL, new Piece(120, end(0), end(3)), second);
        int[] kinds = {1, 3, 4, 5, 255};
        for (int kind : kinds) {
            // The octet was the last one of a key; behind it is a 2, a kind before and a V now.
            dueOpened("kind " + kind, kind < 4 ? WELL : WRONG, new Piece(120, put(0, 0), end(kind)), second);
        }
    }

    /** "V .. 128 more where more comes": no octet more than it needs. */
    private static void valueShortest() {
        dueOpened("then 1", WELL, new Piece(120, put(1, 64)), new Piece(16, put(1, 100)));
        dueOpened("then 0", WRONG, new Piece(120, put(1, 1)), new Piece(16, put(1, 100)));
    }

    /** "(10 octets at most)": 64 bits. */
    private static void valueOf64Bits() {
        long ten = 1L << 62;
        dueOpened("a tenth of 1", WELL, new Piece(120, put(1, ten)), new Piece(24, put(1, Long.MAX_VALUE)));
        dueOpened("a tenth of 0", WRONG, new Piece(120, put(1, 1)), new Piece(24, put(1, ten)));
        dueOpened("a tenth of 2", WRONG, new Piece(120, end(1), end(1L << 60)), new Piece(24, put(1, ten)));
        dueOpened("an eleventh", WRONG, new Piece(120, end(1), put(2, ten)), new Piece(24, put(1, ten)));
    }

    /** "(.. it stays DOWN then)". */
    private static void staysDown() {
        House x = laid(new Piece(120, put(1, 1), end(2)), new Piece(16, put(1, 2)));
        x.mark();
        x.put(9, 9);
        Check.due("wrong", opened(x), WRONG);
        Check.due("wrong still", x.open(), WRONG);
        int read = x.told(2);
        int written = x.told(3);
        Check.dueTold("DOWN", x, 0, 0, read, written, 0, 0, 2, 1);
        Check.due("it was", x.down(), false);
        Check.due("no page is told", x.badAt(), SortedRuns.NONE);
        Check.indexThrown("no RUNS", () -> x.run(0, 0));
        Check.stateThrown("put", () -> x.put(1, 1));
        Check.stateThrown("flush", () -> x.flush());
    }
}
