/** Promises 1 to 5: a new object, put, remove, fold, many. */
final class TableTest {
    public static void main(String[] args) {
        newObject();
        sizes();
        putCounts();
        removeEnds();
        foldAdds();
        fullTable();
        downTable();
        manyEntries();
        manyFlushesAndMerges();
        manyWithoutPlace();
        manyCut();
        manyWrong();
        Check.end("TableTest");
    }

    private static void newObject() {
        for (int page = 0; page < 6; page++) {
            House x = new House(6);
            if (page == 1) {
                Check.duePage("new", x, 1, 0, 0, 0, 1, 0, 1, 0);
            } else {
                Check.dueOctets("new", x, page, 0, new int[128]);
            }
        }
        House x = new House(6);
        int[] told = {4, 0, 0, 0, 0, 0, 1, 0};
        for (int what = 0; what < 8; what++) {
            Check.due("new told(" + what + ")", x.told(what), told[what]);
        }
        Check.due("new state()", x.state(), 0);
        Check.due("new badAt()", x.badAt(), SortedRuns.NONE);
        Check.due("new down()", x.down(), true);
        Check.due("new open()", x.open(), 0);
    }

    private static void sizes() {
        int[] asked = {Integer.MIN_VALUE, -1, 0, 3, 4, 5, 1023, 1024, 1025, Integer.MAX_VALUE};
        int[] free = {2, 2, 2, 2, 2, 3, 1021, 1022, 1022, 1022};
        for (int i = 0; i < asked.length; i++) {
            House x = new House(asked[i]);
            int pages = free[i] + 2;
            Check.due("free of " + asked[i], x.told(0), free[i]);
            Check.due("last octet of " + asked[i], x.octet(pages - 1, 127), 0);
            Check.indexThrown("octet behind " + asked[i], () -> x.octet(pages, 0));
        }
    }

    private static void putCounts() {
        House x = new House(20);
        Check.due("put first", x.put(5, 1), 1);
        Check.due("put second", x.put(Long.MIN_VALUE, -1), 2);
        Check.due("put over", x.put(5, 2), 2);
        Check.due("told(1)", x.told(1), 2);
        Check.due("get(5)", x.get(-1, 5), 2);
        Check.due("get(least)", x.get(-1, Long.MIN_VALUE), -1);
        Check.due("put on END", x.remove(5), 2);
        Check.due("put on END", x.put(5, 9), 2);
        Check.due("get on END", x.get(-1, 5), 9);
        Check.due("nothing read", x.told(2), 0);
    }

    private static void removeEnds() {
        House x = new House(20);
        x.put(1, 10);
        Check.due("remove one there", x.remove(1), 1);
        Check.due("remove one not there", x.remove(2), 2);
        for (long key = 1; key <= 2; key++) {
            Check.due("get removed", x.get(-1, key), 0);
            Check.due("state removed", x.state(), 2);
        }
    }

    private static void foldAdds() {
        House x = new House(20);
        Check.due("fold on none", x.fold(1, 5), 1);
        x.fold(1, 6);
        Check.due("fold on ADD", x.get(-1, 1), 11);
        x.put(2, Long.MAX_VALUE);
        x.fold(2, 1);
        Check.due("fold on PUT, round", x.get(-1, 2), Long.MIN_VALUE);
        x.remove(3);
        x.fold(3, 4);
        Check.due("fold on END", x.get(-1, 3), 4);
        x.fold(4, 1);
        x.fold(5, 1);
        x.remove(4);
        x.put(5, 70);
        x.flush();
        // On a page one sees the kinds: an ADD stays one, on PUT and END it is a PUT.
        Check.duePage("kinds", x, 2, 0, 1, 0, 0, 5,
                0, 128, 0, 0, 0, 0, 0, 0, 1, 3, 22,
                7, 2, 1, 255, 255, 255, 255, 255, 255, 255, 255, 255, 1,
                7, 3, 1, 8,
                7, 4, 2,
                7, 5, 1, 140, 1);
    }

    private static void fullTable() {
        House x = new House(20);
        for (int i = 0; i < 64; i++) {
            Check.due("put " + i, x.put(i, i), i + 1);
        }
        Check.stateThrown("put a 65th", () -> x.put(64, 0));
        Check.stateThrown("remove a 65th", () -> x.remove(-1));
        Check.stateThrown("fold a 65th", () -> x.fold(1000, 0));
        Check.due("put one of 64", x.put(63, 1), 64);
        Check.due("remove one of 64", x.remove(0), 64);
        Check.due("fold one of 64", x.fold(31, 1), 64);
        Check.due("get of 64", x.get(-1, 31), 32);
        x.get(-1, 64);
        Check.due("the 65th is not there", x.state(), 0);
    }

    private static void downTable() {
        House x = new House(20);
        x.put(1, 1);
        x.down();
        Check.stateThrown("put down", () -> x.put(1, 1));
        Check.stateThrown("remove down", () -> x.remove(1));
        Check.stateThrown("fold down", () -> x.fold(1, 1));
        Check.stateThrown("many down", () -> x.many(1, 1, 0, 0));
        Check.stateThrown("many down and wrong", () -> x.many(0, 0, 0, 0));
        Check.due("opened", x.open(), 0);
        Check.due("the table is gone", x.told(1), 0);
    }

    private static void manyEntries() {
        House x = new House(20);
        Check.due("many puts", x.many(1, 10, 100, -3), 10);
        Check.due("value of the first", x.get(-1, 100), 0);
        Check.due("value of the last", x.get(-1, 73), 9);
        Check.due("many ADDs of one key", x.many(3, 4, 100, 0), 4);
        Check.due("their sum", x.get(-1, 100), 6);
        Check.due("many ENDs", x.many(2, 2, 97, -3), 2);
        x.get(-1, 94);
        Check.due("ended", x.state(), 2);
        Check.due("still ten", x.told(1), 10);
        Check.due("keys go round", x.many(1, 2, Long.MAX_VALUE, 1), 2);
        Check.due("the key behind the greatest", x.get(-1, Long.MIN_VALUE), 1);
    }

    private static void manyFlushesAndMerges() {
        House x = new House(400);
        Check.due("64 stay in the table", x.many(1, 64, 0, 1), 64);
        Check.due("no run yet", x.told(4), 0);
        Check.due("one of 64 needs no place", x.many(3, 1, 63, 1), 1);
        Check.due("no run yet", x.told(4), 0);
        Check.due("one more", x.many(1, 1, 64, 1), 1);
        Check.due("a run", x.run(0, 3), 64);
        Check.due("the table", x.told(1), 1);
        Check.due("five more runs", x.many(1, 5 * 64, 65, 1), 320);
        Check.due("six runs", x.told(4), 6);
        Check.due("all of level 0", x.run(5, 1), 0);
        int read = x.told(2);
        // 63 more fill the table, the one behind merges the six, then flushes.
        Check.due("up to the brim", x.many(1, 63, 385, 1), 63);
        Check.due("nothing read", x.told(2), read);
        Check.due("over it", x.many(1, 1, 448, 1), 1);
        Check.due("runs behind the merge", x.told(4), 2);
        Check.due("newest", x.run(0, 1), 0);
        Check.due("newest has", x.run(0, 3), 64);
        Check.due("merged has", x.run(1, 3), 384);
        Check.due("1000 at once", x.many(1, 1000, 10000, 1), 1000);
    }

    private static void manyWithoutPlace() {
        House x = new House(4);
        // 64 keys in a row need 3 pages, and 2 are free.
        Check.due("no place for a 65th", x.many(1, 70, 0, 1), 64);
        Check.due("the table stays", x.told(1), 64);
        Check.due("none came", x.many(1, 5, 1000, 1), 0);
        Check.due("those there still come", x.many(2, 5, 0, 1), 5);
        Check.due("nothing written", x.told(3), 0);
    }

    private static void manyCut() {
        House x = new House(100);
        x.cut(1, 0);
        Check.due("cut at the 65th", x.many(1, 100, 0, 1), 64);
        Check.due("down", x.told(7), 1);
        Check.due("open", x.open(), 0);
        x.many(1, 64 * 7, 0, 1);
        Check.due("six runs", x.told(4), 6);
        x.cut(1, 0);
        Check.due("the merge is cut, no flush behind it", x.many(1, 3, 5000, 1), 0);
        // The first run has 3 pages, the others, of greater values, 4; each has a head.
        Check.due("one write", x.told(3), 1 + 4 + 5 * 5 + 1);
        Check.due("down", x.told(7), 1);
    }

    private static void manyWrong() {
        House x = new House(20);
        int[] kinds = {Integer.MIN_VALUE, -1, 0, 4, Integer.MAX_VALUE};
        for (int kind : kinds) {
            Check.argumentThrown("kind " + kind, () -> x.many(kind, 1, 0, 0));
        }
        int[] counts = {Integer.MIN_VALUE, -1, 0, 1001, Integer.MAX_VALUE};
        for (int n : counts) {
            Check.argumentThrown("n " + n, () -> x.many(1, n, 0, 0));
        }
        Check.due("nothing came", x.told(1), 0);
        Check.due("1000 are fine", x.many(3, 1000, 7, 0), 1000);
        Check.due("one key", x.told(1), 1);
        Check.due("0 + .. + 999", x.get(-1, 7), 499500);
    }
}
