import java.util.ArrayList;
import java.util.Collections;
import java.util.List;
import java.util.Random;

/** Runs of calls drawn from fixed seeds, some on forged pages: SortedRuns and Model must answer alike. */
final class ModelTest {
    private interface Ask {
        long answer();
    }

    private static final int[] SIZES = {4, 5, 7, 12, 25, 40, 70, 120, 400};
    private static final long[] EDGES = {
        Long.MIN_VALUE, Long.MIN_VALUE + 1, Long.MAX_VALUE, Long.MAX_VALUE - 1, -1, 0, 1, 63, 64, 8191, 8192,
        -64, -65, 255, 256, 1L << 32, -(1L << 40), 1L << 62, -(1L << 62), -(1L << 62) - 1
    };

    private final Random random;
    private final SortedRuns x;
    private final Model m;
    private final String name;
    private final int flavour;
    private long lastFrom = 0;

    private ModelTest(int seed) {
        random = new Random(seed);
        int pages = SIZES[random.nextInt(SIZES.length)];
        flavour = random.nextInt(6);
        x = new SortedRuns(pages);
        m = new Model(pages);
        name = "seed " + seed + ", " + pages + " pages: ";
    }

    public static void main(String[] args) {
        int seeds = args.length > 0 ? Integer.parseInt(args[0]) : 150;
        int calls = args.length > 1 ? Integer.parseInt(args[1]) : 300;
        for (int seed = 0; seed < seeds && Check.wrongSoFar() == 0; seed++) {
            new ModelTest(seed).go(calls);
        }
        Check.end("ModelTest");
    }

    private void go(int calls) {
        for (int i = 0; i < calls && Check.wrongSoFar() == 0; i++) {
            oneCall();
            for (int w = 0; w < 8; w++) {
                int what = w;
                same("told(" + w + ")", () -> x.told(what), () -> m.told(what));
            }
            same("state()", () -> x.state(), () -> m.state);
            if (random.nextInt(4) == 0) {
                same("badAt()", () -> x.badAt(), () -> m.badAt());
            }
            if (random.nextInt(12) == 0) {
                compareAll();
            }
        }
        compareAll();
    }

    private void compareAll() {
        for (int p = 0; p < m.pageCount; p++) {
            for (int i = 0; i < 128; i++) {
                int page = p;
                int octet = i;
                same("octet", () -> x.octet(page, octet), () -> m.octet(page, octet));
            }
        }
        for (int r = 0; r <= m.now.size(); r++) {
            for (int w = -1; w < 6; w++) {
                int run = r;
                int what = w;
                same("run", () -> x.run(run, what), () -> m.run(run, what));
            }
        }
    }

    private static String told(Ask ask) {
        try {
            return "" + ask.answer();
        } catch (RuntimeException e) {
            return e.getClass().getSimpleName();
        }
    }

    private void same(String call, Ask ours, Ask due) {
        Check.due(name + call, told(ours), told(due));
    }

    private long key() {
        switch (random.nextInt(8)) {
            case 0:
                return EDGES[random.nextInt(EDGES.length)];
            case 1:
                return random.nextLong();
            case 2:
                return random.nextInt(1000) * 1000L;
            default:
                return random.nextInt(60) - 5;
        }
    }

    private long value() {
        return random.nextInt(3) == 0 ? EDGES[random.nextInt(EDGES.length)] : random.nextInt(300) - 100;
    }

    private int markNumber() {
        return random.nextInt(3) == 0 ? random.nextInt(11) - 2 : random.nextInt(4) - 1;
    }

    private void oneCall() {
        if (m.isDown && random.nextInt(3) == 0) {
            if (flavour > 3 && random.nextInt(4) != 0) {
                forge();
            }
            same("open()", () -> x.open(), () -> m.open());
            return;
        }
        int pick = random.nextInt(100);
        if (pick < 20) {
            callOne();
        } else if (pick < 34) {
            callMany();
        } else if (pick < 44) {
            same("flush()", () -> x.flush(), () -> m.flush());
        } else if (pick < 54) {
            same("merge()", () -> x.merge(), () -> m.merge());
        } else if (pick < 60) {
            callMarks();
        } else if (pick < 74) {
            callGet();
        } else if (pick < 82) {
            callRange();
        } else if (pick < 84) {
            long key = key();
            same("hidden(" + key + ")", () -> x.hidden(key) ? 1 : 0, () -> m.hidden(key) ? 1 : 0);
        } else {
            callTrouble();
        }
    }

    private void callOne() {
        long key = key();
        long value = value();
        switch (random.nextInt(3)) {
            case 0:
                same("put(" + key + ", " + value + ")", () -> x.put(key, value), () -> m.one(1, key, value));
                break;
            case 1:
                same("remove(" + key + ")", () -> x.remove(key), () -> m.one(2, key, 0));
                break;
            default:
                same("fold(" + key + ", " + value + ")", () -> x.fold(key, value), () -> m.one(3, key, value));
        }
    }

    private void callMany() {
        int kind = random.nextInt(20) == 0 ? random.nextInt(7) - 2 : 1 + random.nextInt(3);
        int n = random.nextInt(10) == 0 ? random.nextInt(1010) - 3 : 1 + random.nextInt(120);
        long from = random.nextInt(3) == 0 ? lastFrom : key();
        long step = random.nextInt(4) == 0 ? key() : random.nextInt(5);
        lastFrom = from;
        same("many(" + kind + ", " + n + ", " + from + ", " + step + ")",
                () -> x.many(kind, n, from, step), () -> m.many(kind, n, from, step));
    }

    private void callMarks() {
        if (random.nextInt(2) == 0) {
            same("mark()", () -> x.mark(), () -> m.mark());
        } else {
            int mark = markNumber();
            same("release(" + mark + ")", () -> x.release(mark), () -> m.release(mark));
        }
    }

    private void callGet() {
        int mark = markNumber();
        long key = key();
        same("get(" + mark + ", " + key + ")", () -> x.get(mark, key), () -> m.get(mark, key));
    }

    private void callRange() {
        int mark = markNumber();
        boolean all = random.nextInt(3) == 0;
        long from = all ? Long.MIN_VALUE : key();
        long to = all ? Long.MAX_VALUE : random.nextInt(3) == 0 ? key() : from + random.nextInt(100);
        same("range(" + mark + ", " + from + ", " + to + ")",
                () -> x.range(mark, from, to), () -> m.range(mark, from, to));
        for (int i = -1; i < 205; i += 1 + random.nextInt(9)) {
            int at = i;
            int what = random.nextInt(8) == 0 ? random.nextInt(5) - 1 : random.nextInt(2);
            same("at(" + i + ", " + what + ")", () -> x.at(at, what), () -> m.at(at, what));
        }
    }

    /** Pages and a head that are right by their sums, but of which no plain run of calls comes to think. */
    private void forge() {
        List<Integer> pages = new ArrayList<>();
        for (int p = 2; p < m.pageCount; p++) {
            if (chain(p) > 0) {
                pages.add(p);
            }
        }
        if (pages.isEmpty()) {
            return;
        }
        for (int i = random.nextInt(3); i > 0; i--) {
            forgePage(pages.get(random.nextInt(pages.size())));
        }
        forgeHead(pages);
    }

    /** Of how many pages a run could be that begins with this one. */
    private int chain(int first) {
        Model.Run run = new Model.Run();
        for (int p = first; p > 1 && m.right(p) && m.read(p, 0, 2) == m.read(first, 0, 2) && m.takePage(run, p);) {
            p = m.read(p, 2, 2);
        }
        return run.pages.size();
    }

    private void forgePage(int page) {
        int[] octets = m.octets[page].clone();
        List<Model.Entry> list = Model.decode(octets);
        int pick = random.nextInt(9);
        if (pick == 0) {
            octets[random.nextInt(120)] ^= 1 << random.nextInt(8);
        } else if (pick == 1) {
            octets[5 + random.nextInt(20)] = random.nextInt(12);
        } else if (pick == 2) {
            octets[2] = 0;
            octets[3] = random.nextInt(Math.min(m.pageCount + 1, 256));
        } else if (list != null) {
            List<Model.Entry> some = new ArrayList<>();
            for (Model.Entry e : list) {
                if (random.nextInt(6) != 0) {
                    some.add(new Model.Entry(e.key, pick == 3 ? 1 + random.nextInt(3) : e.kind, e.value));
                }
            }
            if (!some.isEmpty() && Model.layout(some).size() == 1) {
                octets = Model.pageOctets(m.read(page, 0, 2), m.read(page, 2, 2), some);
            }
        }
        lay(page, octets);
    }

    private void forgeHead(List<Integer> pages) {
        int head = random.nextInt(2);
        int generation = m.generation + 1 + random.nextInt(3);
        generation += generation % 2 == head ? 0 : 1;
        int next = random.nextInt(3) == 0 ? random.nextInt(3) : m.nextNumber + random.nextInt(5) - 2;
        List<Integer> levels = new ArrayList<>(Collections.nCopies(random.nextInt(random.nextInt(20) == 0 ? 9 : 7), 0));
        for (int level = 1; level < 4; level++) {
            for (int i = random.nextInt(random.nextInt(20) == 0 ? 3 : 2); i > 0; i--) {
                levels.add(random.nextInt(40) == 0 ? random.nextInt(6) : level);
            }
        }
        List<Integer> o = new ArrayList<>();
        Model.number(o, generation, 4);
        Model.number(o, Math.max(0, next), 2);
        Model.number(o, levels.size(), 1);
        for (int level : levels) {
            int first = pages.get(random.nextInt(pages.size()));
            int most = Math.max(1, chain(first));
            boolean odd = random.nextInt(60) == 0;
            Model.number(o, odd ? random.nextInt(9) : m.read(first, 0, 2), 2);
            Model.number(o, level, 1);
            Model.number(o, odd ? random.nextInt(9) : first, 2);
            Model.number(o, odd ? random.nextInt(9) : random.nextInt(3) == 0 ? 1 + random.nextInt(most) : most, 2);
        }
        while (o.size() < 120) {
            o.add(random.nextInt(90) == 0 ? random.nextInt(256) : 0);
        }
        lay(head, Model.padded(o.subList(0, 120)));
    }

    private void lay(int page, int[] octets) {
        Forge.lay(x, page, octets);
        m.lay(page, octets);
    }

    private void callTrouble() {
        // Some seeds are quiet, so that runs grow; some are all trouble.
        if (flavour == 0 || flavour == 1 && random.nextInt(4) != 0) {
            return;
        }
        int pick = random.nextInt(10);
        if (pick < 3) {
            int at = random.nextInt(8) == 0 ? random.nextInt(1010) - 3 : random.nextInt(5);
            int behind = random.nextInt(3) == 0 ? random.nextInt(130) - 1 : random.nextInt(8);
            same("cut(" + at + ", " + behind + ")", () -> {
                x.cut(at, behind);
                return 0;
            }, () -> {
                m.cut(at, behind);
                return 0;
            });
        } else if (pick < 6) {
            int page = random.nextInt(3) == 0 ? m.generation % 2 : random.nextInt(Math.min(m.pageCount + 2, 30)) - 1;
            int octet = random.nextInt(3) == 0 ? random.nextInt(130) - 1 : random.nextInt(6);
            int mask = random.nextInt(10) == 0 ? random.nextInt(400) - 100 : 1 << random.nextInt(8);
            same("poke(" + page + ", " + octet + ", " + mask + ")", () -> {
                x.poke(page, octet, mask);
                return 0;
            }, () -> {
                m.poke(page, octet, mask);
                return 0;
            });
        } else if (pick < 8) {
            same("down()", () -> x.down() ? 1 : 0, () -> m.down() ? 1 : 0);
        } else {
            same("open()", () -> x.open(), () -> m.open());
        }
    }
}
