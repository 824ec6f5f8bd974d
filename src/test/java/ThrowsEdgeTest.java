import java.util.ArrayList;
import java.util.List;
import java.util.function.Consumer;

/** Section 3: "A call that throws changes nothing; of several exceptions the one named first is thrown". */
final class ThrowsEdgeTest {
    private interface Made {
        House make();
    }

    public static void main(String[] args) {
        dueSame("up", ThrowsEdgeTest::up, ThrowsEdgeTest::throwUp);
        dueSame("full", ThrowsEdgeTest::full, ThrowsEdgeTest::throwFull);
        dueSame("DOWN", ThrowsEdgeTest::fallen, ThrowsEdgeTest::throwDown);
        Check.end("ThrowsEdgeTest");
    }

    private static House up() {
        House x = new House(8);
        x.put(1, 10);
        x.put(2, 20);
        x.mark();
        x.put(1, 11);
        x.remove(2);
        x.flush();
        x.put(3, 30);
        x.range(-1, 0, 9);
        x.get(-1, 2);
        x.cut(4, 9);
        return x;
    }

    private static void throwUp(House x) {
        Check.argumentThrown("kind", () -> x.many(0, 5, 7, 1));
        Check.argumentThrown("kind", () -> x.many(4, 5, 7, 1));
        Check.argumentThrown("n", () -> x.many(1, 0, 7, 1));
        Check.argumentThrown("n", () -> x.many(1, 1001, 7, 1));
        Check.indexThrown("release", () -> x.release(1));
        Check.indexThrown("release", () -> x.release(-1));
        Check.indexThrown("get", () -> x.get(1, 1));
        Check.indexThrown("range", () -> x.range(1, 0, 1));
        Check.argumentThrown("range", () -> x.range(0, 1, 0));
        Check.indexThrown("range, both", () -> x.range(1, 1, 0));
        Check.indexThrown("at", () -> x.at(2, 0));
        Check.indexThrown("run", () -> x.run(2, 0));
        Check.indexThrown("octet", () -> x.octet(8, 0));
        Check.indexThrown("poke", () -> x.poke(8, 0, 1));
        Check.argumentThrown("poke", () -> x.poke(2, 0, 0));
        Check.stateThrown("poke", () -> x.poke(5, 0, 1));
        Check.stateThrown("poke, both", () -> x.poke(5, 0, 0));
        Check.indexThrown("poke, all", () -> x.poke(5, 128, 0));
        Check.argumentThrown("cut", () -> x.cut(1, 128));
        Check.argumentThrown("cut", () -> x.cut(1001, 0));
        Check.argumentThrown("cut", () -> x.cut(-1, -1));
        Check.stateThrown("open", () -> x.open());
        Check.indexThrown("told", () -> x.told(8));
    }

    private static House full() {
        House x = up();
        x.many(1, 63, 100, 1);
        return x;
    }

    private static void throwFull(House x) {
        Check.stateThrown("put", () -> x.put(99, 1));
        Check.stateThrown("remove", () -> x.remove(99));
        Check.stateThrown("fold", () -> x.fold(99, 1));
    }

    private static House fallen() {
        House x = up();
        x.down();
        return x;
    }

    private static void throwDown(House x) {
        Check.stateThrown("put", () -> x.put(1, 1));
        Check.stateThrown("remove", () -> x.remove(1));
        Check.stateThrown("fold", () -> x.fold(1, 1));
        Check.stateThrown("many", () -> x.many(1, 1, 1, 1));
        Check.stateThrown("many, both", () -> x.many(4, 1, 1, 1));
        Check.stateThrown("flush", () -> x.flush());
        Check.stateThrown("merge", () -> x.merge());
        Check.stateThrown("mark", () -> x.mark());
        Check.stateThrown("release", () -> x.release(0));
        Check.stateThrown("release, both", () -> x.release(9));
        Check.stateThrown("get", () -> x.get(-1, 1));
        Check.stateThrown("get, both", () -> x.get(9, 1));
        Check.stateThrown("range", () -> x.range(-1, 1, 1));
        Check.stateThrown("range, all", () -> x.range(9, 1, 0));
        Check.stateThrown("hidden", () -> x.hidden(1));
        Check.indexThrown("run", () -> x.run(0, 0));
    }

    /** What one sees of an object is the same whether the calls that throw were made or not. */
    private static void dueSame(String what, Made made, Consumer<House> throwing) {
        for (int page = 0; page < 5; page += 2) {
            House quiet = made.make();
            House asked = made.make();
            throwing.accept(asked);
            List<Long> due = seen(quiet, page);
            List<Long> got = seen(asked, page);
            Check.due(what + ": " + got + " and " + due, got.equals(due), true);
        }
    }

    private static List<Long> seen(House x, int first) {
        List<Long> all = new ArrayList<>();
        for (int page = first; page < first + 2; page++) {
            for (int octet : Check.page(x, page)) {
                all.add((long) octet);
            }
        }
        for (int what = 0; what < 8; what++) {
            all.add((long) x.told(what));
        }
        all.add((long) x.state());
        all.add((long) x.badAt());
        for (int i = 0; i < 2; i++) {
            all.add(x.at(i, 0));
            all.add(x.at(i, 1));
        }
        boolean down = x.told(7) == 1;
        for (int i = 0; i < 2 && !down; i++) {
            all.add((long) x.run(i, 0));
            all.add(x.get(-1, i + 1));
            all.add(x.get(0, i + 1));
        }
        if (down) {
            all.add((long) x.open());
        }
        // The cut is where it was: in the 4th WRITE.
        x.put(3, 3);
        all.add((long) x.flush());
        if (x.told(7) == 0) {
            all.add((long) x.merge());
        }
        all.add((long) x.told(3));
        all.add((long) x.told(7));
        return all;
    }
}
