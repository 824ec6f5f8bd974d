/** Section 3 and promises 10 to 13, 15, sentence by sentence: on either side of each boundary that they name. */
final class LookupEdgeTest {
    private static final long LEAST = Long.MIN_VALUE;
    private static final long MOST = Long.MAX_VALUE;
    private static final int NOTHING = 0;
    private static final int VALUE = 1;
    private static final int END = 2;
    private static final int BAD = 3;

    public static void main(String[] args) {
        tableOnlyForNow();
        betweenFirstAndLastKey();
        filterOfThreeBits();
        filterOfItsNumber();
        lastPageNotAbove();
        nextPageIsNotRead();
        badAtOnce();
        badNotComeUpon();
        fromNoughtOn();
        markNumbers();
        marksOfGet();
        states();
        stateStays();
        rangeEnds();
        rangeFromAboveTo();
        rangeReadsAll();
        twoHundred();
        atOfTheLatest();
        hiddenBetween();
        hiddenOfNowAlone();
        Check.end("LookupEdgeTest");
    }

    // ---- the filter, as section 3 tells it

    private static int bit(long key, int number, int which) {
        long h = (key ^ 7L * number) * -7046029254386353131L;
        return (int) (which == 0 ? h >>> 55 : which == 1 ? (h >>> 46) % 512 : (h >>> 37) % 512);
    }

    private static boolean[] filter(int number, int count, long from, long step) {
        boolean[] bits = new boolean[512];
        for (int i = 0; i < count; i++) {
            for (int which = 0; which < 3; which++) {
                bits[bit(from + i * step, number, which)] = true;
            }
        }
        return bits;
    }

    /** Which of the three are 0: 1 for the first, 2 for the second, 4 for the third, together. */
    private static int noughts(boolean[] bits, long key, int number) {
        int sum = 0;
        for (int which = 0; which < 3; which++) {
            sum += bits[bit(key, number, which)] ? 0 : 1 << which;
        }
        return sum;
    }

    private static void dueGet(House x, int mark, long key, long value, int state, int read) {
        int before = x.told(2);
        Check.due("get(" + mark + ", " + key + ")", x.get(mark, key), value);
        Check.due("state of " + key, x.state(), state);
        Check.due("READ for " + key, x.told(2) - before, read);
    }

    // ---- looking up

    /** "in the table (only for now)". */
    private static void tableOnlyForNow() {
        House x = new House(20);
        x.put(1, 1);
        x.mark();
        x.put(1, 2);
        x.fold(2, 3);
        dueGet(x, -1, 1, 2, VALUE, 0);
        dueGet(x, 0, 1, 1, VALUE, 1);
        dueGet(x, -1, 2, 3, VALUE, 0);
        dueGet(x, 0, 2, 0, NOTHING, 0);
    }

    /** "not in one whose first key is above it, or last key below": the FILTER does not bar these. */
    private static void betweenFirstAndLastKey() {
        int count = 384;
        long from = 0;
        boolean[] bits = filter(7, count, from, 1);
        while (noughts(bits, from - 1, 7) + noughts(bits, from + count, 7) > 0) {
            from++;
            bits = filter(7, count, from, 1);
        }
        House x = new House(90);
        x.many(1, count, from, 1);
        x.flush();
        x.merge();
        Check.due("RUN 7", x.run(0, 0), 7);
        dueGet(x, -1, from - 1, 0, NOTHING, 0);
        dueGet(x, -1, from, 0, VALUE, 1);
        dueGet(x, -1, from + count - 1, count - 1, VALUE, 1);
        dueGet(x, -1, from + count, 0, NOTHING, 0);
    }

    /** "FILTER .. for each of its keys three ..": "It bars a key of which one of three is 0". */
    private static void filterOfThreeBits() {
        filterOfThreeBits(0, 1000, 1);
        filterOfThreeBits(-12345, 123456789, 9999);
        // Keys of which all 64 bits count.
        filterOfThreeBits(Long.MIN_VALUE + 7, 0x0301010101010101L, 0x0123456789abL);
    }

    private static void filterOfThreeBits(long from, long step, long by) {
        boolean[] bits = filter(1, 64, from, step);
        int[] found = new int[8];
        House x = new House(20);
        x.many(1, 64, from, step);
        x.flush();
        for (long key = from + by; key < from + 63 * step && x.callsLeft() > 20; key += by) {
            int none = noughts(bits, key, 1);
            if ((key - from) % step != 0 && found[none] < 8) {
                found[none]++;
                Check.due("hidden(" + key + ")", x.hidden(key), none > 0);
                dueGet(x, -1, key, 0, NOTHING, none > 0 ? 0 : 1);
            }
        }
        for (int none = 0; none < 8; none++) {
            Check.due("keys of which these are 0: " + none, found[none], 8);
        }
    }

    /** "key exclusive or 7 times its number". */
    private static void filterOfItsNumber() {
        House x = new House(40);
        for (int number = 1; number < 6; number++) {
            x.put(0, 0);
            x.put(1000, 1);
            x.flush();
            boolean any = false;
            for (long key = 300; key < 330; key++) {
                any = false;
                for (int i = 1; i <= number; i++) {
                    any |= noughts(filter(i, 2, 0, 1000), key, i) > 0;
                }
                Check.due("hidden(" + key + ") of " + number, x.hidden(key), any);
            }
        }
    }

    /** "the page in which it would be (the last one whose first key is not above it)". */
    private static void lastPageNotAbove() {
        // Pages begin with keys 0, 54, 108 from the first on; 53 and 107 are in none, and not barred.
        long from = 0;
        boolean[] bits = filter(1, 60, from, 2);
        while (noughts(bits, from + 53, 1) + noughts(bits, from + 107, 1) > 0) {
            from++;
            bits = filter(1, 60, from, 2);
        }
        for (int bad = 2; bad < 5; bad++) {
            House x = new House(20);
            x.many(1, 60, from, 2);
            x.flush();
            x.poke(bad, 100, 1);
            long[] keys = {0, 52, 53, 54, 106, 107, 108, 118};
            int[] pages = {2, 2, 2, 3, 3, 3, 4, 4};
            for (int i = 0; i < keys.length; i++) {
                boolean there = keys[i] % 2 == 0;
                boolean isBad = pages[i] == bad;
                dueGet(x, -1, from + keys[i], there && !isBad ? keys[i] / 2 : 0,
                        isBad ? BAD : there ? VALUE : NOTHING, 1);
            }
        }
    }

    /** No other page is looked at: not the next one, though its first key, BAD as it is, is the one asked for. */
    private static void nextPageIsNotRead() {
        long from = 0;
        while (noughts(filter(1, 60, from, 2), from + 53, 1) > 0) {
            from += 2;
        }
        House x = new House(20);
        x.many(1, 60, from, 2);
        x.flush();
        Check.due("the first key's last octet", x.octet(3, 13), (from + 54) % 256);
        x.poke(3, 13, (int) ((from + 54) % 256 ^ (from + 53) % 256));
        dueGet(x, -1, from + 53, 0, NOTHING, 1);
        dueGet(x, -1, from + 52, 26, VALUE, 1);
        dueGet(x, -1, from + 54, 0, BAD, 1);
    }

    /** "is its SUM wrong: BAD, at once". */
    private static void badAtOnce() {
        for (int bad = 0; bad < 4; bad++) {
            House x = new House(20);
            x.put(1, 100);
            x.flush();
            x.fold(1, 10);
            x.flush();
            x.fold(1, 1);
            x.flush();
            if (bad > 0) {
                x.poke(5 - bad, 120, 1);
            }
            dueGet(x, -1, 1, bad == 0 ? 111 : 0, bad == 0 ? VALUE : BAD, bad == 0 ? 3 : bad);
        }
    }

    /** "PUT, END end it": a BAD page behind them is not come upon, nor one that has not to be READ. */
    private static void badNotComeUpon() {
        House x = new House(20);
        x.put(1, 100);
        x.put(2, 200);
        x.put(3, 300);
        x.flush();
        x.poke(2, 0, 1);
        x.put(1, 1);
        x.remove(2);
        x.fold(3, 3);
        x.flush();
        dueGet(x, -1, 1, 1, VALUE, 1);
        dueGet(x, -1, 2, 0, END, 1);
        dueGet(x, -1, 3, 0, BAD, 2);
        dueGet(x, -1, 0, 0, NOTHING, 0);
        dueGet(x, -1, 4, 0, NOTHING, 0);
        x.put(3, 30);
        dueGet(x, -1, 3, 30, VALUE, 0);
    }

    /** "an ADD goes on to the older ones; what ADDS there are come upon that (from 0 on END or nothing)". */
    private static void fromNoughtOn() {
        House x = new House(20);
        x.put(1, 50);
        x.remove(2);
        x.flush();
        for (int i = 0; i < 2; i++) {
            x.fold(1, 3);
            x.fold(2, 4);
            x.fold(3, -5);
            if (i == 0) {
                x.flush();
            }
        }
        dueGet(x, -1, 1, 56, VALUE, 2);
        dueGet(x, -1, 2, 8, VALUE, 2);
        dueGet(x, -1, 3, -10, VALUE, 1);
        x.fold(3, 10);
        dueGet(x, -1, 3, 0, VALUE, 1);
        dueGet(x, -1, 4, 0, NOTHING, 0);
    }

    /** "numbers 0 .. 7, the least free one". */
    private static void markNumbers() {
        House x = new House(20);
        for (int i = 0; i < 8; i++) {
            Check.due("mark", x.mark(), i);
        }
        Check.due("a ninth", x.mark(), SortedRuns.NONE);
        int[] gone = {7, 0, 3};
        for (int mark : gone) {
            x.release(mark);
        }
        int[] least = {0, 3, 7, SortedRuns.NONE};
        for (int mark : least) {
            Check.due("the least free one", x.mark(), mark);
        }
    }

    /** Promise 10: "(NONE: now)", "no such MARK". */
    private static void marksOfGet() {
        House x = new House(20);
        x.put(1, 1);
        for (int i = 0; i < 8; i++) {
            x.mark();
        }
        int[] marks = {-2, -1, 0, 7, 8};
        for (int mark : marks) {
            if (mark >= -1 && mark < 8) {
                Check.due("get as of " + mark, x.get(mark, 1), 1);
                Check.due("range as of " + mark, x.range(mark, 1, 1), 1);
            } else {
                Check.indexThrown("get as of " + mark, () -> x.get(mark, 1));
                Check.indexThrown("range as of " + mark, () -> x.range(mark, 1, 1));
            }
        }
        x.release(7);
        Check.indexThrown("gone", () -> x.get(7, 1));
        Check.indexThrown("gone", () -> x.range(7, 1, 1));
        Check.due("6 is there", x.get(6, 1), 1);
    }

    // ---- state

    /** "0 nothing there (no ENTRY), 1 a value (range(): well), 2 an END, 3 BAD; 0 before". */
    private static void states() {
        House x = new House(20);
        Check.due("before", x.state(), 0);
        x.put(1, 0);
        x.remove(2);
        Check.due("before", x.state(), 0);
        dueGet(x, -1, 1, 0, VALUE, 0);
        dueGet(x, -1, 2, 0, END, 0);
        dueGet(x, -1, 3, 0, NOTHING, 0);
        Check.due("an END is no key of a range", x.range(-1, 2, 3), 0);
        Check.due("well", x.state(), 1);
        x.flush();
        dueGet(x, -1, 1, 0, VALUE, 1);
        dueGet(x, -1, 2, 0, END, 1);
        dueGet(x, -1, 3, 0, NOTHING, 0);
        x.poke(2, 1, 1);
        dueGet(x, -1, 1, 0, BAD, 1);
        dueGet(x, -1, 3, 0, NOTHING, 0);
        Check.due("BAD", x.range(-1, 3, 3), SortedRuns.NONE);
        Check.due("BAD", x.state(), 3);
    }

    /** "How the latest get(), range() ended": no other call, and none that throws, is one. */
    private static void stateStays() {
        House x = new House(20);
        x.remove(1);
        x.get(-1, 1);
        x.put(1, 1);
        x.flush();
        x.merge();
        x.mark();
        x.hidden(1);
        Check.due("as it was", x.state(), END);
        Check.indexThrown("get", () -> x.get(1, 1));
        Check.argumentThrown("range", () -> x.range(-1, 1, 0));
        Check.due("as it was", x.state(), END);
        x.down();
        Check.stateThrown("get", () -> x.get(-1, 1));
        Check.due("as it was, DOWN", x.state(), END);
        x.open();
        Check.due("as it was, opened", x.state(), END);
        x.get(-1, 1);
        Check.due("another", x.state(), VALUE);
    }

    // ---- range and at

    /** "All keys of from .. to that have a value, by keys". */
    private static void rangeEnds() {
        for (int where = 0; where < 3; where++) {
            House x = new House(20);
            x.put(10, 1);
            x.fold(12, 2);
            x.remove(13);
            x.put(LEAST, 3);
            x.put(MOST, 4);
            if (where > 0) {
                x.flush();
            }
            if (where > 1) {
                x.merge();
            }
            long[][] cases = {{10, 12, 2}, {11, 12, 1}, {10, 11, 1}, {11, 11, 0}, {10, 10, 1}, {12, 13, 1}, {13, 13, 0},
                {LEAST, MOST, 4}, {LEAST + 1, MOST, 3}, {LEAST, MOST - 1, 3}, {LEAST, LEAST, 1}, {MOST, MOST, 1},
                {LEAST + 1, 9, 0}, {14, MOST - 1, 0}};
            for (long[] c : cases) {
                Check.due("range(" + c[0] + ", " + c[1] + ")", x.range(-1, c[0], c[1]), c[2]);
            }
        }
    }

    /** "IllegalArgumentException (last): from is above to". */
    private static void rangeFromAboveTo() {
        House x = new House(20);
        x.put(5, 5);
        long[] tos = {6, 5, 4, LEAST};
        for (long to : tos) {
            if (to >= 5) {
                Check.due("range(5, " + to + ")", x.range(-1, 5, to), 1);
            } else {
                Check.argumentThrown("range(5, " + to + ")", () -> x.range(-1, 5, to));
                Check.indexThrown("no such MARK is before it", () -> x.range(0, 5, to));
            }
        }
        Check.argumentThrown("range(most, least)", () -> x.range(-1, MOST, LEAST));
        Check.due("nothing was READ", x.told(2), 0);
        x.down();
        Check.stateThrown("DOWN is before both", () -> x.range(8, 5, 4));
    }

    /** "All pages of all RUNS of it are READ, newest RUN first, up to the first BAD one". */
    private static void rangeReadsAll() {
        // Newest first: RUN 2 on 5, 6; RUN 1 on 2, 3, 4.
        int[] order = {5, 6, 2, 3, 4};
        for (int bad = 0; bad <= order.length; bad++) {
            House x = new House(20);
            x.many(1, 60, 0, 1);
            x.flush();
            x.many(1, 40, 0, 1);
            x.mark();
            x.put(100, 1);
            x.range(-1, 100, 100);
            for (int i = bad; i < order.length; i++) {
                x.poke(order[i], 77, 1);
            }
            for (int mark = -1; mark < 1; mark++) {
                int read = x.told(2);
                int there = mark == -1 ? 61 : 60;
                Check.due("BAD from " + bad, x.range(mark, 0, 1000), bad < order.length ? SortedRuns.NONE : there);
                Check.due("READ", x.told(2) - read, Math.min(bad + 1, order.length));
                Check.due("state", x.state(), bad < order.length ? BAD : VALUE);
                if (bad < order.length) {
                    Check.indexThrown("BAD: none", () -> x.at(0, 0));
                } else {
                    Check.due("the first", x.at(0, 0), 0);
                }
            }
        }
    }

    /** "how many (of the first 200 one can ask)". */
    private static void twoHundred() {
        House x = new House(60);
        x.many(1, 250, 1000, 2);
        int[] counts = {1, 199, 200, 201, 250};
        for (int count : counts) {
            int end = Math.min(count, 200);
            Check.due("range of " + count, x.range(-1, 1000, 1000 + 2 * count - 1), count);
            Check.due("the last one's key", x.at(end - 1, 0), 1000 + 2 * (end - 1));
            Check.due("the last one's value", x.at(end - 1, 1), end - 1);
            Check.indexThrown("the one behind it", () -> x.at(end, 0));
            Check.indexThrown("its value", () -> x.at(end, 1));
        }
        Check.due("none", x.range(-1, 0, 999), 0);
        Check.indexThrown("none of none", () -> x.at(0, 0));
    }

    /** "Of the i-th key of the latest range() that did not throw (also when DOWN): the key (0), its value (1)". */
    private static void atOfTheLatest() {
        House x = new House(20);
        Check.indexThrown("none before", () -> x.at(0, 0));
        x.put(5, 50);
        x.put(6, 60);
        x.range(-1, 5, 6);
        int[] whats = {-1, 0, 1, 2};
        for (int what : whats) {
            if (what == 0 || what == 1) {
                Check.due("at(1, " + what + ")", x.at(1, what), what == 0 ? 6 : 60);
            } else {
                Check.indexThrown("at(1, " + what + ")", () -> x.at(1, what));
            }
        }
        Check.indexThrown("at(-1, 0)", () -> x.at(-1, 0));
        Check.indexThrown("at(2, 0)", () -> x.at(2, 0));
        x.put(5, 51);
        x.remove(6);
        x.get(-1, 6);
        Check.argumentThrown("throws", () -> x.range(-1, 6, 5));
        Check.due("as it was then", x.at(0, 1), 50);
        Check.due("as it was then", x.at(1, 1), 60);
        x.down();
        Check.due("also when DOWN", x.at(1, 0), 6);
        Check.indexThrown("when DOWN", () -> x.at(2, 0));
        Check.stateThrown("throws", () -> x.range(-1, 0, 1));
        x.open();
        Check.due("and opened", x.at(1, 1), 60);
        Check.due("another", x.range(-1, 0, 100), 0);
        Check.indexThrown("none", () -> x.at(0, 0));
    }

    // ---- hidden

    /** Promise 15: "bars the key though it is between its first and last one". */
    private static void hiddenBetween() {
        // The FILTER bars the keys next to both ends, on either side.
        long from = 0;
        while (!barsBesides(from, from + 100)) {
            from++;
        }
        House x = new House(20);
        Check.due("no RUN", x.hidden(from), false);
        x.put(from, 1);
        x.put(from + 100, 1);
        Check.due("the table has no FILTER", x.hidden(from + 1), false);
        x.flush();
        long[] keys = {from - 1, from, from + 1, from + 99, from + 100, from + 101};
        boolean[] hidden = {false, false, true, true, false, false};
        for (int i = 0; i < keys.length; i++) {
            Check.due("hidden(" + keys[i] + ")", x.hidden(keys[i]), hidden[i]);
        }
        Check.due("nothing was READ", x.told(2), 0);
        x.down();
        Check.stateThrown("DOWN", () -> x.hidden(1));
    }

    private static boolean barsBesides(long first, long last) {
        boolean[] bits = filter(1, 2, first, last - first);
        return noughts(bits, first - 1, 1) > 0 && noughts(bits, first + 1, 1) > 0
                && noughts(bits, last - 1, 1) > 0 && noughts(bits, last + 1, 1) > 0;
    }

    /** "any RUN of now": the oldest, too, but not one that only a MARK has. */
    private static void hiddenOfNowAlone() {
        House x = new House(20);
        x.put(0, 1);
        x.put(1000, 1);
        x.flush();
        Check.due("one RUN bars it", x.hidden(500), true);
        x.put(500, 1);
        x.mark();
        Check.due("the older one", x.hidden(500), true);
        x.merge();
        Check.due("only a MARK has it", x.hidden(500), false);
        x.remove(0);
        x.remove(1000);
        x.flush();
        Check.due("the newer one", x.hidden(500), true);
    }
}
