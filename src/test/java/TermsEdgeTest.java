import java.math.BigInteger;
import java.util.ArrayList;
import java.util.List;

/** Section 1, sentence by sentence: the case just inside and the case just outside stand beside each other. */
final class TermsEdgeTest {
    private static final BigInteger ROUND = BigInteger.ONE.shiftLeft(64);
    // Of a first ENTRY with one key: 5 octets of the page, 1 shared, 8 of the key, 1 kind.
    private static final int VALUE_AT = 15;
    private static final long STEP = 0x0101010100L;
    private static final int SIX_TABLES = 6 * 64;

    public static void main(String[] args) {
        valueLengths();
        valueTenOctets();
        valueBelowNought();
        sharedOctets();
        sharedAtTheBeginningAlone();
        firstSharesNothing();
        firstOctetTurned();
        entryFits();
        entryFitsWithItsValue();
        leastFreePages();
        sums();
        sumIsOfThePagesNumber();
        headsTakeTurns();
        headsAreNoFreePages();
        numbersOfTwoOctets();
        generationsOfTwoOctets();
        pageCountsOfTwoOctets();
        Check.end("TermsEdgeTest");
    }

    private static BigInteger without(long value) {
        BigInteger v = BigInteger.valueOf(value);
        BigInteger twice = v.shiftLeft(1);
        return value >= 0 ? twice : BigInteger.ONE.negate().subtract(twice);
    }

    /** The V of a value as the only ENTRY of a page, octet by octet, and what follows it. */
    private static void dueValue(long value, int length) {
        House x = new House(6);
        x.put(1, value);
        x.remove(2);
        x.flush();
        BigInteger z = without(value);
        for (int i = 0; i < length; i++) {
            int octet = z.intValue() & 127;
            z = z.shiftRight(7);
            Check.due(value + ": more comes behind octet " + i, z.signum() > 0, i < length - 1);
            Check.due(value + ": octet " + i, x.octet(2, VALUE_AT + i), octet + (i < length - 1 ? 128 : 0));
        }
        Check.dueOctets(value + ": the END behind it", x, 2, VALUE_AT + length, 7, 2, 2, 0);
        for (int opened = 0; opened < 2; opened++) {
            Check.due(value + ": read again", x.get(-1, 1), value);
            x.get(-1, 2);
            Check.due(value + ": the END behind it", x.state(), 2);
            x.down();
            Check.due(value + ": opened", x.open(), 1);
        }
    }

    /** "7 bits an octet, the lowest first, 128 more where more comes". */
    private static void valueLengths() {
        dueValue(0, 1);
        for (int length = 1; length < 10; length++) {
            long limit = 1L << 7 * length - 1;
            dueValue(limit - 1, length);
            dueValue(limit, length + 1);
            dueValue(-limit, length);
            dueValue(-limit - 1, length + 1);
        }
    }

    /** "(10 octets at most)". */
    private static void valueTenOctets() {
        dueValue((1L << 62) - 1, 9);
        dueValue(1L << 62, 10);
        dueValue(Long.MAX_VALUE, 10);
        dueValue(Long.MIN_VALUE, 10);
        House x = new House(6);
        x.put(1, Long.MAX_VALUE);
        x.fold(2, Long.MIN_VALUE);
        x.flush();
        Check.duePage("both ends", x, 2, 0, 1, 0, 0, 2,
                0, 128, 0, 0, 0, 0, 0, 0, 1, 1, 254, 255, 255, 255, 255, 255, 255, 255, 255, 1,
                7, 2, 3, 255, 255, 255, 255, 255, 255, 255, 255, 255, 1);
    }

    /** "z = v times 2, if v is not below 0, else -1 less (v times 2)". */
    private static void valueBelowNought() {
        long[] values = {0, -1, 1, -2, 2, -3};
        for (int i = 0; i < values.length; i++) {
            House x = new House(6);
            x.fold(1, values[i]);
            x.flush();
            Check.dueOctets("" + values[i], x, 2, VALUE_AT, i, 0);
        }
    }

    /** "how many octets its KEY shares with that before it in the page, at the beginning (8 at most ..)". */
    private static void sharedOctets() {
        long before = 0x0101010101010101L;
        for (int shared = 0; shared < 8; shared++) {
            House x = new House(6);
            long key = before + (1L << 56 - 8 * shared);
            x.remove(before);
            x.remove(key);
            x.flush();
            Check.dueOctets("first", x, 2, 4, 2, 0, 129, 1, 1, 1, 1, 1, 1, 1, 2);
            Check.due("shares " + shared, x.octet(2, 15), shared);
            for (int i = shared; i < 8; i++) {
                Check.due("octet " + i, x.octet(2, 16 + i - shared), i > shared ? 1 : i == 0 ? 130 : 2);
            }
            Check.dueOctets("kind, then 0s", x, 2, 16 + 8 - shared, 2, 0);
            x.down();
            Check.due("opened", x.open(), 1);
            Check.due("both keys", x.run(0, 3), 2);
            x.get(-1, key);
            Check.due("read again", x.state(), 2);
        }
    }

    /** "at the beginning": octets that are the same behind one that differs do not count. */
    private static void sharedAtTheBeginningAlone() {
        House x = new House(6);
        x.remove(0x0102030405060807L);
        x.remove(0x0102030405060808L);
        x.remove(0x0202030405060808L);
        x.flush();
        Check.dueOctets("7, then 0", x, 2, 15, 7, 8, 2, 0, 130, 2, 3, 4, 5, 6, 8, 8, 2, 0);
    }

    /** "0 for the first", of each page, though the key before it, on the page before, has the same 7 octets. */
    private static void firstSharesNothing() {
        House x = new House(6);
        x.many(2, 37, 0, 1);
        x.flush();
        Check.dueOctets("the 36th shares 7", x, 2, 117, 7, 35, 2);
        Check.dueOctets("the 37th is first", x, 3, 4, 1, 0, 128, 0, 0, 0, 0, 0, 0, 36, 2, 0);
    }

    /** "128 turned round in the first one": KEYS rise as longs do. */
    private static void firstOctetTurned() {
        House x = new House(6);
        x.remove(0);
        x.remove(-1);
        x.remove(Long.MAX_VALUE);
        x.remove(Long.MIN_VALUE);
        x.flush();
        Check.duePage("least, -1, 0, greatest", x, 2, 0, 1, 0, 0, 4,
                0, 0, 0, 0, 0, 0, 0, 0, 0, 2,
                0, 127, 255, 255, 255, 255, 255, 255, 255, 2,
                0, 128, 0, 0, 0, 0, 0, 0, 0, 2,
                0, 255, 255, 255, 255, 255, 255, 255, 255, 2);
    }

    /** "An ENTRY goes into the page if it fits into the 120, else into the next one". */
    private static void entryFits() {
        // The first ENTRY has 10 octets and its V, each END behind it 3: 34 of them fit when the V has 3.
        long[] values = {0, 64, 8192, 1048576, 1L << 27, 1L << 34};
        int[] entries = {35, 35, 35, 34, 34, 34};
        for (int i = 0; i < values.length; i++) {
            House x = new House(6);
            x.put(0, values[i]);
            x.many(2, 35, 1, 1);
            x.flush();
            Check.due("V of " + (i + 1) + " octets: ENTRIES of the page", x.octet(2, 4), entries[i]);
            Check.due("ENTRIES of the next", x.octet(3, 4), 36 - entries[i]);
            Check.due("pages", x.run(0, 2), 2);
            Check.due("last octet", x.octet(2, 119), i == 2 || i == 5 ? 2 : 0);
        }
    }

    /** The same with the octets of the ENTRY's own V. */
    private static void entryFitsWithItsValue() {
        // 117 octets, then 116: an END has 3 more, a PUT of 0 has 4.
        long[] firsts = {8192, 64};
        for (long first : firsts) {
            for (int kind = 1; kind <= 2; kind++) {
                House x = new House(6);
                x.put(0, first);
                x.many(2, 33, 1, 1);
                x.many(kind, 1, 34, 1);
                x.flush();
                boolean fits = kind == 2 || first == 64;
                Check.due("kind " + kind + ": pages", x.run(0, 2), fits ? 1 : 2);
                Check.due("kind " + kind + ": ENTRIES", x.octet(2, 4), fits ? 35 : 34);
            }
        }
        long[] values = {63, 64, -64, -65};
        for (long value : values) {
            House x = new House(6);
            x.many(1, 26, 0, 1);
            x.put(26, value);
            x.flush();
            boolean fits = value == 63 || value == -64;
            Check.due(value + ": pages", x.run(0, 2), fits ? 1 : 2);
            Check.due(value + ": ENTRIES", x.octet(2, 4), fits ? 27 : 26);
            Check.due(value + ": next", x.octet(2, 3), fits ? 0 : 3);
        }
    }

    /** "The pages of a RUN are the FREE ones with the least numbers, in that order". */
    private static void leastFreePages() {
        House x = new House(14);
        for (int i = 0; i < 3; i++) {
            x.put(i, i);
            x.flush();
            Check.due("page of its own", x.run(0, 4), 2 + i);
            if (i == 0) {
                x.mark();
            }
        }
        Check.due("3, 4 are FREE, 5 is taken", x.merge(), 1);
        Check.due("page", x.run(0, 4), 5);
        x.many(1, 60, 0, 1);
        x.flush();
        Check.due("not 2, which a MARK has", x.run(0, 4), 3);
        Check.dueOctets("next", x, 3, 2, 0, 4);
        Check.dueOctets("next is not 5", x, 4, 2, 0, 6);
        Check.dueOctets("none", x, 6, 2, 0, 0);
        Check.due("now 2 is FREE", x.release(0), 1);
        x.many(1, 60, 0, 1);
        x.flush();
        Check.due("2", x.run(0, 4), 2);
        Check.dueOctets("next", x, 2, 2, 0, 7);
        Check.dueOctets("next", x, 7, 2, 0, 8);
        Check.dueOctets("none", x, 8, 2, 0, 0);
    }

    private static BigInteger roundSum(int[] octets, int page) {
        BigInteger sum = BigInteger.valueOf(page);
        for (int i = 0; i < 120; i++) {
            sum = sum.xor(BigInteger.valueOf(octets[i])).multiply(BigInteger.valueOf(1099511628211L)).mod(ROUND);
        }
        return sum;
    }

    private static void dueRoundSum(House x, int page) {
        int[] octets = Check.page(x, page);
        BigInteger sum = roundSum(octets, page);
        for (int i = 0; i < 8; i++) {
            int octet = sum.shiftRight(56 - 8 * i).intValue() & 255;
            Check.due("page " + page + ": octet " + i + " of the SUM", octets[120 + i], octet);
        }
    }

    /** "the last 8 are the SUM of the 120 before (highest octet first) .. (64 bits)". */
    private static void sums() {
        House x = new House(600);
        x.put(-1, Long.MIN_VALUE);
        x.flush();
        x.many(1, 40, 0, 1);
        x.flush();
        dueRoundSum(x, 0);
        dueRoundSum(x, 1);
        dueRoundSum(x, 3);
        int[] last = {0, 119, 120, 127};
        for (int i : last) {
            House y = new House(600);
            y.put(-1, Long.MIN_VALUE);
            y.flush();
            Check.due("right", y.badAt(), SortedRuns.NONE);
            y.poke(2, i, 1);
            Check.due("octet " + i + " counts", y.badAt(), 2);
        }
    }

    /** "from the page's number on", which may be above 255. */
    private static void sumIsOfThePagesNumber() {
        House x = new House(600);
        spreadOver(x, 258);
        dueRoundSum(x, 255);
        dueRoundSum(x, 256);
        dueRoundSum(x, 257);
    }

    /** RUNS until page last is one of theirs: tables of 64 keys that share little, kept by MARKS. */
    private static void spreadOver(House x, int last) {
        for (int i = 0; i < 60 && x.octet(last, 4) == 0; i++) {
            x.many(1, 64, i * 64L << 40, 0x0101010101010101L);
            if (x.flush() == SortedRuns.NONE) {
                x.merge();
                x.flush();
            }
        }
        Check.due("page " + last + " was written", x.octet(last, 4) > 0, true);
    }

    /** "its page is GENERATION modulo 2". */
    private static void headsTakeTurns() {
        House x = new House(10);
        for (int generation = 2; generation < 6; generation++) {
            x.put(generation, 1);
            x.flush();
            Check.dueOctets("this one", x, generation % 2, 0, 0, 0, 0, generation, 0, generation, generation - 1);
            Check.dueOctets("the one before", x, 1 - generation % 2, 0, 0, 0, 0, generation - 1);
            Check.due("GENERATION", x.told(6), generation);
        }
    }

    /** "Pages 0, 1 are HEADS; the others are FREE". */
    private static void headsAreNoFreePages() {
        House x = new House(4);
        Check.due("FREE", x.told(0), 2);
        x.many(1, 40, 0, 1);
        Check.due("two pages are there", x.flush(), 1);
        Check.due("the first", x.run(0, 4), 2);
        Check.due("none is FREE", x.told(0), 0);
        x.put(1, 1);
        Check.due("and none for a third", x.flush(), SortedRuns.NONE);
    }

    /** u2 of a RUN's number, of the next one and of pages: 255, 256. */
    private static void numbersOfTwoOctets() {
        House x = new House(600);
        while (nextNumber(x) < 250) {
            x.many(2, Math.min(1000, 64 * (250 - nextNumber(x))), 0, 1);
            x.merge();
        }
        int puts = 0;
        for (int number = nextNumber(x); number < 258; number++) {
            Check.due("next number on the HEAD", nextNumber(x), number);
            x.put(number, number);
            puts++;
            Check.due("flush", x.flush(), number);
            int page = x.run(0, 4);
            Check.dueOctets("number " + number, x, page, 0, number / 256, number % 256);
            Check.dueOctets("on the HEAD", x, x.told(6) % 2, 7, number / 256, number % 256, 0, 0, page, 0, 1);
            if (x.told(4) == 6) {
                x.merge();
                number++;
            }
        }
        x.down();
        Check.due("opened", x.open() > 0, true);
        int newest = x.run(0, 0);
        Check.due("a number above 255", newest > 255, true);
        x.many(1, 40, 0, 1);
        Check.due("the next", x.flush(), newest + 1);
        // The HEAD on page 0 or 1 is no page of the RUN, whatever its octets are.
        int[] froms = {0, 26, 27, 39, 40};
        for (int from : froms) {
            Check.due("range from " + from, x.range(-1, from, Long.MAX_VALUE), 40 - from + puts);
        }
    }

    private static int nextNumber(House x) {
        int head = x.told(6) % 2;
        return x.octet(head, 4) * 256 + x.octet(head, 5);
    }

    /** u4 GENERATION: 255, 256, 257. */
    private static void generationsOfTwoOctets() {
        House x = new House(60);
        while (x.told(6) < 250) {
            x.many(2, Math.min(1000, 64 * Math.max(2, (250 - x.told(6)) / 2)), 0, 1);
            x.merge();
        }
        for (int generation = x.told(6) + 1; generation < 260; generation++) {
            x.put(generation, 1);
            if (x.flush() == SortedRuns.NONE) {
                x.merge();
            }
            Check.due("GENERATION", x.told(6), generation);
            Check.dueOctets("on its page", x, generation % 2, 0, 0, 0, generation / 256, generation % 256);
        }
        x.down();
        Check.due("the greater one is opened", x.open() > 0, true);
        Check.due("GENERATION", x.told(6), 259);
        int[][] both = {{1, 3}, {0, 2}};
        for (int[] heads : both) {
            Check.dueOctets("both are there", x, heads[0], 2, 1, heads[1]);
        }
    }

    /** u2 how many pages, of a RUN of LEVEL 3: 255, 256. */
    private static void pageCountsOfTwoOctets() {
        int[] pages = {255, 256};
        for (int count : pages) {
            House x = new House(1024);
            int keys = keysFor(count);
            // The odd ones first: six whole tables have more than 24 pages, so that the last merge takes all.
            int end = keys % SIX_TABLES;
            for (int i = 0; i < keys; end += SIX_TABLES) {
                for (; i < end; i += 64) {
                    x.many(1, Math.min(64, end - i), i * STEP, STEP);
                    x.flush();
                }
                i = end;
                x.merge();
            }
            Check.due("RUNS", x.told(4), 1);
            Check.due("LEVEL", x.run(0, 1), 3);
            Check.due("pages", x.run(0, 2), count);
            Check.dueOctets("on the HEAD", x, x.told(6) % 2, 12, count / 256, count % 256);
        }
    }

    private static int keysFor(int pages) {
        List<Model.Entry> all = new ArrayList<>();
        for (int i = 0; i < 6000; i++) {
            all.add(new Model.Entry(i * STEP, 1, 0));
        }
        List<List<Model.Entry>> layout = Model.layout(all);
        int keys = 0;
        for (int p = 0; p < pages; p++) {
            keys += layout.get(p).size();
        }
        return keys;
    }
}
