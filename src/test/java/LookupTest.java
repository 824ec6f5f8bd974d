/** Promises 10 to 13 and 15: get, state, range, at, hidden. */
final class LookupTest {
    private static final long LEAST = Long.MIN_VALUE;
    private static final long GREATEST = Long.MAX_VALUE;

    public static void main(String[] args) {
        getThroughRuns();
        getReads();
        getBad();
        getWrong();
        states();
        rangeGathers();
        rangeReads();
        rangeBad();
        rangeWrong();
        atEdges();
        filters();
        Check.end("LookupTest");
    }

    private static void getThroughRuns() {
        House x = new House(30);
        x.put(1, 10);
        x.put(2, 20);
        x.remove(3);
        x.fold(4, 40);
        x.flush();
        x.fold(1, 1);
        x.fold(2, GREATEST);
        x.fold(3, 3);
        x.fold(4, 4);
        x.flush();
        x.fold(1, 100);
        x.fold(4, 400);
        x.remove(2);
        Check.due("ADD, ADD, PUT", x.get(-1, 1), 111);
        Check.due("END in the table", x.get(-1, 2), 0);
        Check.due("state", x.state(), 2);
        Check.due("ADD on END", x.get(-1, 3), 3);
        Check.due("state", x.state(), 1);
        Check.due("ADDs on nothing", x.get(-1, 4), 444);
        Check.due("state", x.state(), 1);
        Check.due("nothing", x.get(-1, 5), 0);
        Check.due("state", x.state(), 0);
        Check.due("mark", x.mark(), 0);
        x.put(1, 0);
        Check.due("the table is not of a mark", x.get(0, 1), 111);
        Check.due("a value of 0", x.get(-1, 1), 0);
        Check.due("state", x.state(), 1);
    }

    private static void getReads() {
        House x = new House(30);
        x.many(1, 60, 0, 2);
        x.flush();
        x.put(1000, 1);
        x.flush();
        Check.due("first of all", x.get(-1, 0), 0);
        Check.due("last of a page", x.get(-1, 52), 26);
        Check.due("first of the next", x.get(-1, 54), 27);
        Check.due("last of all", x.get(-1, 118), 59);
        Check.due("one page each, none of run 2", x.told(2), 4);
        x.get(-1, -1);
        x.get(-1, 120);
        x.get(-1, 999);
        x.get(-1, 1001);
        Check.due("outside of both", x.told(2), 4);
        x.put(4, 4);
        x.get(-1, 4);
        x.remove(6);
        x.get(-1, 6);
        Check.due("the table ends it", x.told(2), 4);
        x.fold(8, 1);
        Check.due("an ADD goes on", x.get(-1, 8), 5);
        Check.due("so a page is read", x.told(2), 5);
    }

    private static void getBad() {
        House x = new House(30);
        x.many(1, 60, 0, 2);
        x.flush();
        x.fold(0, 7);
        x.flush();
        x.poke(2, 40, 2);
        Check.due("bad behind an ADD", x.get(-1, 0), 0);
        Check.due("state", x.state(), 3);
        Check.due("both are read", x.told(2), 2);
        Check.due("another page is fine", x.get(-1, 118), 59);
        Check.due("state", x.state(), 1);
        x.put(0, 5);
        Check.due("not come upon", x.get(-1, 0), 5);
        Check.due("state", x.state(), 1);
    }

    private static void getWrong() {
        House x = new House(30);
        x.put(1, 1);
        x.get(-1, 1);
        int[] marks = {Integer.MIN_VALUE, -2, 0, 7, 8, Integer.MAX_VALUE};
        for (int mark : marks) {
            Check.indexThrown("get(" + mark + ")", () -> x.get(mark, 1));
            Check.indexThrown("range(" + mark + ")", () -> x.range(mark, 0, 1));
            Check.indexThrown("range wrong twice", () -> x.range(mark, 1, 0));
        }
        Check.due("state as it was", x.state(), 1);
        x.down();
        Check.stateThrown("get down", () -> x.get(-1, 1));
        Check.stateThrown("get down and wrong", () -> x.get(9, 1));
        Check.stateThrown("range down", () -> x.range(-1, 0, 1));
        Check.stateThrown("range down and wrong", () -> x.range(9, 1, 0));
        Check.stateThrown("hidden down", () -> x.hidden(1));
        Check.due("state as it was", x.state(), 1);
    }

    private static void states() {
        House x = new House(30);
        Check.due("before", x.state(), 0);
        x.range(-1, 0, 0);
        Check.due("a range without keys", x.state(), 1);
        x.get(-1, 0);
        Check.due("nothing", x.state(), 0);
    }

    private static void rangeGathers() {
        House x = new House(30);
        x.put(LEAST, 1);
        x.put(GREATEST, 2);
        x.put(-5, 3);
        x.put(5, 4);
        x.remove(7);
        x.flush();
        x.remove(5);
        x.fold(7, 70);
        x.fold(-5, 1);
        x.flush();
        x.fold(9, 90);
        x.put(0, 0);
        Check.due("all", x.range(-1, LEAST, GREATEST), 6);
        long[] keys = {LEAST, -5, 0, 7, 9, GREATEST};
        long[] values = {1, 4, 0, 70, 90, 2};
        for (int i = 0; i < 6; i++) {
            Check.due("key " + i, x.at(i, 0), keys[i]);
            Check.due("value " + i, x.at(i, 1), values[i]);
        }
        Check.due("state", x.state(), 1);
        Check.due("both ends count", x.range(-1, -5, 9), 4);
        Check.due("first", x.at(0, 0), -5);
        Check.due("last", x.at(3, 0), 9);
        Check.due("one key", x.range(-1, 7, 7), 1);
        Check.due("an ended key", x.range(-1, 5, 5), 0);
        Check.due("least alone", x.range(-1, LEAST, LEAST), 1);
        Check.due("greatest alone", x.range(-1, GREATEST, GREATEST), 1);
        x.mark();
        x.put(8, 8);
        Check.due("not the table of a mark", x.range(0, 8, 8), 0);
        Check.due("the table of now", x.range(-1, 8, 8), 1);
    }

    private static void rangeReads() {
        House x = new House(30);
        x.many(1, 60, 0, 1);
        x.flush();
        x.put(1000, 1);
        x.flush();
        Check.due("one", x.range(-1, 1000, 1000), 1);
        Check.due("all pages of all runs", x.told(2), 4);
        Check.due("none", x.range(-1, 5000, 6000), 0);
        Check.due("all again", x.told(2), 8);
    }

    private static void rangeBad() {
        House x = new House(30);
        x.many(1, 60, 0, 1);
        x.flush();
        x.put(1000, 1);
        x.flush();
        Check.due("well", x.range(-1, 0, 2000), 61);
        x.poke(3, 3, 8);
        int read = x.told(2);
        Check.due("bad, though not of these keys", x.range(-1, 1000, 1000), SortedRuns.NONE);
        Check.due("state", x.state(), 3);
        Check.due("newest first, up to the bad one", x.told(2), read + 3);
        Check.indexThrown("none to ask for", () -> x.at(0, 0));
    }

    private static void rangeWrong() {
        House x = new House(30);
        x.put(1, 1);
        x.range(-1, 1, 1);
        x.get(-1, 2);
        Check.argumentThrown("from above to", () -> x.range(-1, 1, 0));
        Check.argumentThrown("from above to", () -> x.range(-1, GREATEST, LEAST));
        Check.due("state as it was", x.state(), 0);
        Check.due("the latest that did not throw", x.at(0, 0), 1);
        x.down();
        Check.due("also when down", x.at(0, 1), 1);
        Check.due("state also when down", x.state(), 0);
    }

    private static void atEdges() {
        House x = new House(100);
        Check.indexThrown("before any range", () -> x.at(0, 0));
        x.many(1, 300, 0, 3);
        Check.due("more than one can ask", x.range(-1, 0, 10000), 300);
        Check.due("the 200th", x.at(199, 0), 597);
        Check.due("its value", x.at(199, 1), 199);
        Check.indexThrown("the 201st", () -> x.at(200, 0));
        Check.due("a few", x.range(-1, 300, 305), 2);
        Check.due("the last", x.at(1, 0), 303);
        int[] wrong = {Integer.MIN_VALUE, -1, 2, 199, Integer.MAX_VALUE};
        for (int i : wrong) {
            Check.indexThrown("at(" + i + ", 0)", () -> x.at(i, 0));
        }
        Check.indexThrown("at(0, -1)", () -> x.at(0, -1));
        Check.indexThrown("at(0, 2)", () -> x.at(0, 2));
        Check.due("none", x.range(-1, 1, 2), 0);
        Check.indexThrown("none of none", () -> x.at(0, 0));
    }

    /** Keys 0 and 1000 in run 1, of which the filter has 6 bits at most: most keys between them are barred. */
    private static House ofTwoKeys() {
        House x = new House(30);
        x.put(0, 0);
        x.put(1000, 1);
        Check.due("the table has no filter", x.hidden(500), false);
        x.flush();
        return x;
    }

    private static void filters() {
        House x = new House(30);
        Check.due("no run", x.hidden(0), false);
        boolean[] set = new boolean[512];
        for (long key : new long[] {0, 1000}) {
            for (int bit : bits(key, 1)) {
                set[bit] = true;
            }
        }
        int barred = 0;
        House y = ofTwoKeys();
        for (long key = -20; key <= 1020; key++) {
            boolean bars = false;
            for (int bit : bits(key, 1)) {
                bars |= !set[bit];
            }
            boolean between = key >= 0 && key <= 1000;
            y = y.callsLeft() < 4 ? ofTwoKeys() : y;
            Check.due("hidden(" + key + ")", y.hidden(key), bars && between);
            int read = y.told(2);
            y.get(-1, key);
            Check.due("read for " + key, y.told(2) - read, bars || !between ? 0 : 1);
            barred += bars ? 1 : 0;
        }
        Check.due("most are barred", barred > 900, true);
        House z = ofTwoKeys();
        z.down();
        z.open();
        Check.due("filters are made again", z.hidden(500), true);
        z.put(500, 5);
        z.put(501, 5);
        z.flush();
        Check.due("one of two bars it", z.hidden(500), true);
        Check.due("its own are found", z.get(-1, 500), 5);
    }

    private static int[] bits(long key, int number) {
        long h = (key ^ 7L * number) * -7046029254386353131L;
        return new int[] {(int) (h >>> 55), (int) ((h >>> 46) % 512), (int) ((h >>> 37) % 512)};
    }
}
