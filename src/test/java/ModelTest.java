import java.util.ArrayList;
import java.util.Collections;
import java.util.List;
import java.util.Random;

/** Runs of calls drawn from fixed seeds, some on forged pages: SortedRuns and Model must answer alike. */
final class ModelTest {
    private interface Ask {
        long answer();
    }

    private interface Call {
        long make(House on);
    }

    private static final int[] SIZES = {4, 5, 7, 12, 25, 40, 70, 120, 400};
    private static final long[] EDGES = {
        Long.MIN_VALUE, Long.MIN_VALUE + 1, Long.MAX_VALUE, Long.MAX_VALUE - 1, -1, 0, 1, 63, 64, 8191, 8192,
        -64, -65, 255, 256, 1L << 32, -(1L << 40), 1L << 62, -(1L << 62), -(1L << 62) - 1
    };
    // Calls that are kept for the look at all that one can see, at the end.
    private static final int LOOK = 230;
    private static final int REPEATS = 3;

    private final Random random;
    private final int pages;
    private final House x;
    private final Model m;
    private final String name;
    private final int flavour;
    private final List<Call> made = new ArrayList<>();
    private long lastFrom = 0;

    private ModelTest(int seed) {
        random = new Random(seed);
        pages = SIZES[random.nextInt(SIZES.length)];
        flavour = random.nextInt(Forge.can() ? 6 : 4);
        x = new House(pages);
        m = new Model(pages);
        name = "seed " + seed + ", " + pages + " pages: ";
    }

    public static void main(String[] args) {
        int seeds = args.length > 0 ? Integer.parseInt(args[0]) : 1000;
        for (int seed = 0; seed < seeds && Check.wrongSoFar() == 0; seed++) {
            new ModelTest(seed).go();
        }
        Check.end("ModelTest");
    }

    private void go() {
        while (x.callsLeft() > LOOK && Check.wrongSoFar() == 0) {
            oneCall();
            question();
        }
        lookAt(x);
        for (int i = 0; i < REPEATS && Check.wrongSoFar() == 0; i++) {
            lookAt(again());
        }
    }

    /** Another object after the same calls, without the questions: there are more left for octets. */
    private House again() {
        House other = new House(pages);
        for (Call call : made) {
            told(() -> call.make(other));
        }
        return other;
    }

    private void lookAt(House on) {
        for (int w = -1; w < 9; w++) {
            int what = w;
            same("told(" + w + ")", () -> on.told(what), () -> m.told(what));
        }
        same("badAt()", () -> on.badAt(), () -> m.badAt());
        for (int r = 0; r <= m.now.size(); r++) {
            for (int w = 0; w < 6; w++) {
                int run = r;
                int what = w;
                same("run(" + r + ", " + w + ")", () -> on.run(run, what), () -> m.run(run, what));
            }
        }
        while (on.callsLeft() >= 128) {
            int page = random.nextInt(4) == 0 ? random.nextInt(2) : random.nextInt(Math.min(pages, m.highest + 2));
            for (int i = 0; i < 128; i++) {
                int octet = i;
                same("octet(" + page + ", " + i + ")", () -> on.octet(page, octet), () -> m.octet(page, octet));
            }
        }
    }

    private void question() {
        int pick = random.nextInt(14);
        if (pick < 8) {
            same("told(" + pick + ")", () -> x.told(pick), () -> m.told(pick));
        } else if (pick < 10) {
            same("state()", () -> x.state(), () -> m.state);
        } else if (pick < 11) {
            same("badAt()", () -> x.badAt(), () -> m.badAt());
        } else {
            int run = random.nextInt(m.now.size() + 2) - random.nextInt(2);
            int what = random.nextInt(6);
            same("run(" + run + ", " + what + ")", () -> x.run(run, what), () -> m.run(run, what));
        }
    }

    private static String told(Ask ask) {
        try {
            return "" + ask.answer();
        } catch (RuntimeException e) {
            return e.getClass().getSimpleName();
        }
    }

    private void same(String call, Ask ours, Ask due) {
        Check.due(name + call, told(ours), told(due));
    }

    /** A call that may change something. */
    private void act(String call, Call ours, Ask due) {
        made.add(ours);
        same(call, () -> ours.make(x), due);
    }

    private long key() {
        switch (random.nextInt(8)) {
            case 0:
                return EDGES[random.nextInt(EDGES.length)];
            case 1:
                return random.nextLong();
            case 2:
                return random.nextInt(1000) * 1000L;
            default:
                return random.nextInt(60) - 5;
        }
    }

    private long value() {
        return random.nextInt(3) == 0 ? EDGES[random.nextInt(EDGES.length)] : random.nextInt(300) - 100;
    }

    private int markNumber() {
        return random.nextInt(3) == 0 ? random.nextInt(11) - 2 : random.nextInt(4) - 1;
    }

    private void oneCall() {
        if (m.isDown && random.nextInt(3) == 0) {
            if (flavour > 3 && random.nextInt(4) != 0) {
                forge();
            }
            act("open()", on -> on.open(), () -> m.open());
            return;
        }
        int pick = random.nextInt(100);
        if (pick < 20) {
            callOne();
        } else if (pick < 34) {
            callMany();
        } else if (pick < 44) {
            act("flush()", on -> on.flush(), () -> m.flush());
        } else if (pick < 54) {
            act("merge()", on -> on.merge(), () -> m.merge());
        } else if (pick < 60) {
            callMarks();
        } else if (pick < 74) {
            callGet();
        } else if (pick < 82) {
            callRange();
        } else if (pick < 84) {
            long key = key();
            same("hidden(" + key + ")", () -> x.hidden(key) ? 1 : 0, () -> m.hidden(key) ? 1 : 0);
        } else {
            callTrouble();
        }
    }

    private void callOne() {
        long key = key();
        long value = value();
        switch (random.nextInt(3)) {
            case 0:
                act("put(" + key + ", " + value + ")", on -> on.put(key, value), () -> m.one(1, key, value));
                break;
            case 1:
                act("remove(" + key + ")", on -> on.remove(key), () -> m.one(2, key, 0));
                break;
            default:
                act("fold(" + key + ", " + value + ")", on -> on.fold(key, value), () -> m.one(3, key, value));
        }
    }

    private void callMany() {
        int kind = random.nextInt(20) == 0 ? random.nextInt(7) - 2 : 1 + random.nextInt(3);
        int n = random.nextInt(10) == 0 ? random.nextInt(1010) - 3 : 1 + random.nextInt(120);
        long from = random.nextInt(3) == 0 ? lastFrom : key();
        long step = random.nextInt(4) == 0 ? key() : random.nextInt(5);
        lastFrom = from;
        act("many(" + kind + ", " + n + ", " + from + ", " + step + ")",
                on -> on.many(kind, n, from, step), () -> m.many(kind, n, from, step));
    }

    private void callMarks() {
        if (random.nextInt(2) == 0) {
            act("mark()", on -> on.mark(), () -> m.mark());
        } else {
            int mark = markNumber();
            act("release(" + mark + ")", on -> on.release(mark), () -> m.release(mark));
        }
    }

    private void callGet() {
        int mark = markNumber();
        long key = key();
        act("get(" + mark + ", " + key + ")", on -> on.get(mark, key), () -> m.get(mark, key));
    }

    private void callRange() {
        int mark = markNumber();
        boolean all = random.nextInt(3) == 0;
        long from = all ? Long.MIN_VALUE : key();
        long to = all ? Long.MAX_VALUE : random.nextInt(3) == 0 ? key() : from + random.nextInt(100);
        act("range(" + mark + ", " + from + ", " + to + ")",
                on -> on.range(mark, from, to), () -> m.range(mark, from, to));
        for (int i = 0; i < 4; i++) {
            int at = random.nextInt(3) == 0 ? random.nextInt(203) - 1 : random.nextInt(Math.min(m.asked.size(), 203) + 1);
            int what = random.nextInt(8) == 0 ? random.nextInt(5) - 1 : random.nextInt(2);
            same("at(" + at + ", " + what + ")", () -> x.at(at, what), () -> m.at(at, what));
        }
    }

    /** Pages and a head that are right by their sums, but of which no plain run of calls comes to think. */
    private void forge() {
        List<Integer> begins = new ArrayList<>();
        for (int p = 2; p < m.pageCount; p++) {
            if (chain(p) > 0) {
                begins.add(p);
            }
        }
        if (begins.isEmpty()) {
            return;
        }
        for (int i = random.nextInt(3); i > 0; i--) {
            forgePage(begins.get(random.nextInt(begins.size())));
        }
        forgeHead(begins);
    }

    /** Of how many pages a run could be that begins with this one. */
    private int chain(int first) {
        Model.Run run = new Model.Run();
        for (int p = first; p > 1 && m.right(p) && m.read(p, 0, 2) == m.read(first, 0, 2) && m.takePage(run, p);) {
            p = m.read(p, 2, 2);
        }
        return run.pages.size();
    }

    private void forgePage(int page) {
        int[] octets = m.octets[page].clone();
        List<Model.Entry> list = Model.decode(octets);
        int pick = random.nextInt(9);
        if (pick == 0) {
            octets[random.nextInt(120)] ^= 1 << random.nextInt(8);
        } else if (pick == 1) {
            octets[5 + random.nextInt(20)] = random.nextInt(12);
        } else if (pick == 2) {
            octets[2] = 0;
            octets[3] = random.nextInt(Math.min(m.pageCount + 1, 256));
        } else if (list != null) {
            List<Model.Entry> some = new ArrayList<>();
            for (Model.Entry e : list) {
                if (random.nextInt(6) != 0) {
                    some.add(new Model.Entry(e.key, pick == 3 ? 1 + random.nextInt(3) : e.kind, e.value));
                }
            }
            if (!some.isEmpty() && Model.layout(some).size() == 1) {
                octets = Model.pageOctets(m.read(page, 0, 2), m.read(page, 2, 2), some);
            }
        }
        lay(page, octets);
    }

    private void forgeHead(List<Integer> begins) {
        int head = random.nextInt(2);
        int generation = m.generation + 1 + random.nextInt(3);
        generation += generation % 2 == head ? 0 : 1;
        int next = random.nextInt(3) == 0 ? random.nextInt(3) : m.nextNumber + random.nextInt(5) - 2;
        List<Integer> levels = new ArrayList<>(Collections.nCopies(random.nextInt(random.nextInt(20) == 0 ? 9 : 7), 0));
        for (int level = 1; level < 4; level++) {
            for (int i = random.nextInt(random.nextInt(20) == 0 ? 3 : 2); i > 0; i--) {
                levels.add(random.nextInt(40) == 0 ? random.nextInt(6) : level);
            }
        }
        List<Integer> o = new ArrayList<>();
        Model.number(o, generation, 4);
        Model.number(o, Math.max(0, next), 2);
        Model.number(o, levels.size(), 1);
        for (int level : levels) {
            int first = begins.get(random.nextInt(begins.size()));
            int most = Math.max(1, chain(first));
            boolean odd = random.nextInt(60) == 0;
            Model.number(o, odd ? random.nextInt(9) : m.read(first, 0, 2), 2);
            Model.number(o, level, 1);
            Model.number(o, odd ? random.nextInt(9) : first, 2);
            Model.number(o, odd ? random.nextInt(9) : random.nextInt(3) == 0 ? 1 + random.nextInt(most) : most, 2);
        }
        while (o.size() < 120) {
            o.add(random.nextInt(90) == 0 ? random.nextInt(256) : 0);
        }
        lay(head, Model.padded(o.subList(0, 120)));
    }

    private void lay(int page, int[] octets) {
        made.add(on -> {
            Forge.lay(on, page, octets);
            return 0;
        });
        Forge.lay(x, page, octets);
        m.lay(page, octets);
    }

    private void callTrouble() {
        // Some seeds are quiet, so that runs grow; some are all trouble.
        if (flavour == 0 || flavour == 1 && random.nextInt(4) != 0) {
            return;
        }
        int pick = random.nextInt(10);
        if (pick < 3) {
            int at = random.nextInt(8) == 0 ? random.nextInt(1010) - 3 : random.nextInt(5);
            int behind = random.nextInt(3) == 0 ? random.nextInt(130) - 1 : random.nextInt(8);
            act("cut(" + at + ", " + behind + ")", on -> {
                on.cut(at, behind);
                return 0;
            }, () -> {
                m.cut(at, behind);
                return 0;
            });
        } else if (pick < 6) {
            int page = random.nextInt(3) == 0 ? m.generation % 2 : random.nextInt(Math.min(m.pageCount + 2, 30)) - 1;
            int octet = random.nextInt(3) == 0 ? random.nextInt(130) - 1 : random.nextInt(6);
            int mask = random.nextInt(10) == 0 ? random.nextInt(400) - 100 : 1 << random.nextInt(8);
            act("poke(" + page + ", " + octet + ", " + mask + ")", on -> {
                on.poke(page, octet, mask);
                return 0;
            }, () -> {
                m.poke(page, octet, mask);
                return 0;
            });
        } else if (pick < 8) {
            act("down()", on -> on.down() ? 1 : 0, () -> m.down() ? 1 : 0);
        } else {
            act("open()", on -> on.open(), () -> m.open());
        }
    }
}
