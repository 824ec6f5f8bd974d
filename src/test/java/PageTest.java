/** Promises 14 and 16 to 18: run, octet, poke, badAt. */
final class PageTest {
    private static final int[] FAR = {Integer.MIN_VALUE, -1, Integer.MAX_VALUE};

    public static void main(String[] args) {
        runs();
        octets();
        pokes();
        pokeWrong();
        badPages();
        badPagesOfMarks();
        Check.end("PageTest");
    }

    private static void runs() {
        House x = new House(30);
        Check.indexThrown("no run", () -> x.run(0, 0));
        x.many(1, 60, 0, 1);
        x.flush();
        x.merge();
        x.put(1, 1);
        x.put(2, 1);
        x.flush();
        int[] newest = {3, 0, 1, 2, 2};
        int[] older = {2, 1, 3, 60, 5};
        for (int what = 0; what < 5; what++) {
            Check.due("newest " + what, x.run(0, what), newest[what]);
            Check.due("older " + what, x.run(1, what), older[what]);
        }
        for (int far : FAR) {
            Check.indexThrown("run(" + far + ", 0)", () -> x.run(far, 0));
            Check.indexThrown("run(0, " + far + ")", () -> x.run(0, far));
        }
        Check.indexThrown("a third", () -> x.run(2, 0));
        Check.indexThrown("a sixth thing", () -> x.run(0, 5));
        x.down();
        Check.indexThrown("down", () -> x.run(0, 0));
        x.open();
        for (int what = 0; what < 5; what++) {
            Check.due("newest opened " + what, x.run(0, what), newest[what]);
            Check.due("older opened " + what, x.run(1, what), older[what]);
        }
    }

    private static void octets() {
        House x = new House(5);
        x.put(-1, -1);
        x.flush();
        Check.due("an octet above 127", x.octet(2, 7), 255);
        Check.due("the last page", x.octet(4, 127), 0);
        for (int far : FAR) {
            Check.indexThrown("octet(" + far + ", 0)", () -> x.octet(far, 0));
            Check.indexThrown("octet(0, " + far + ")", () -> x.octet(0, far));
        }
        Check.indexThrown("octet(5, 0)", () -> x.octet(5, 0));
        Check.indexThrown("octet(0, 128)", () -> x.octet(0, 128));
        x.down();
        Check.due("down", x.octet(2, 7), 255);
        Check.indexThrown("down and far", () -> x.octet(5, 0));
    }

    private static void pokes() {
        House x = new House(6);
        x.put(1, 1);
        x.flush();
        x.poke(2, 7, 129);
        Check.due("turned round", x.octet(2, 7), 129);
        Check.stateThrown("wrong already", () -> x.poke(2, 7, 129));
        x.poke(0, 127, 255);
        Check.stateThrown("a head, wrong already", () -> x.poke(0, 0, 1));
        x.down();
        x.poke(1, 0, 1);
        Check.due("also when down", x.octet(1, 0), 1);
        Check.due("both heads are wrong", x.open(), -1);
        House y = new House(6);
        y.poke(0, 0, 1);
        Check.due("0s from 0 on are right", y.octet(0, 0), 1);
        Check.stateThrown("0s from 2 on are not", () -> y.poke(2, 0, 1));
        y.put(1, 1);
        Check.due("written anew", y.flush(), 1);
        y.poke(0, 0, 1);
        Check.due("so it was right again", y.octet(0, 0), 1);
    }

    private static void pokeWrong() {
        House x = new House(6);
        int[] masks = {Integer.MIN_VALUE, -1, 0, 256, Integer.MAX_VALUE};
        for (int mask : masks) {
            Check.argumentThrown("mask " + mask, () -> x.poke(1, 0, mask));
            Check.stateThrown("wrong sum first, " + mask, () -> x.poke(2, 0, mask));
            Check.indexThrown("index before it, " + mask, () -> x.poke(6, 0, mask));
        }
        for (int far : FAR) {
            Check.indexThrown("poke(" + far + ", 0)", () -> x.poke(far, 0, 1));
            Check.indexThrown("poke(1, " + far + ")", () -> x.poke(1, far, 1));
        }
        Check.indexThrown("poke(1, 128)", () -> x.poke(1, 128, 1));
        Check.due("nothing changed", x.badAt(), SortedRuns.NONE);
        x.poke(1, 3, 1);
        Check.due("1 is a mask", x.octet(1, 3), 0);
    }

    private static void badPages() {
        House x = new House(20);
        x.many(1, 60, 0, 1);
        x.flush();
        x.put(1, 1);
        x.flush();
        Check.due("none", x.badAt(), SortedRuns.NONE);
        x.poke(0, 9, 1);
        Check.due("the head before this one", x.badAt(), SortedRuns.NONE);
        x.poke(5, 9, 1);
        Check.due("page 5", x.badAt(), 5);
        x.poke(3, 125, 1);
        Check.due("the least", x.badAt(), 3);
        x.poke(1, 9, 1);
        Check.due("the head of this generation", x.badAt(), 1);
        Check.due("nothing was read", x.told(2), 0);
        x.down();
        Check.due("down", x.badAt(), SortedRuns.NONE);
        House y = new House(4);
        y.poke(1, 5, 1);
        Check.due("the first head", y.badAt(), 1);
        y.put(1, 1);
        y.flush();
        Check.due("not of this generation any more", y.badAt(), SortedRuns.NONE);
    }

    private static void badPagesOfMarks() {
        House x = new House(20);
        x.put(1, 1);
        x.mark();
        x.remove(1);
        x.flush();
        x.merge();
        Check.due("no run of now", x.told(4), 0);
        x.poke(3, 9, 1);
        Check.due("a free page does not count", x.badAt(), SortedRuns.NONE);
        x.poke(2, 9, 1);
        Check.due("a page of a mark does", x.badAt(), 2);
        x.release(0);
        Check.due("no more", x.badAt(), SortedRuns.NONE);
    }
}
