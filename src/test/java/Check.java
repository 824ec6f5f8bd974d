/** Counts answers that are not the ones due. */
final class Check {
    interface Call {
        void make();
    }

    private static int asked = 0;
    private static int wrong = 0;

    private Check() {
    }

    static void due(String what, long got, long want) {
        asked++;
        if (got != want) {
            fail(what + " answered " + got + ", due is " + want);
        }
    }

    static void due(String what, boolean got, boolean want) {
        due(what, got ? 1 : 0, want ? 1 : 0);
    }

    static void due(String what, String got, String want) {
        asked++;
        if (!got.equals(want)) {
            fail(what + " answered " + got + ", due is " + want);
        }
    }

    static void stateThrown(String what, Call call) {
        due(what, thrownBy(call), "IllegalStateException");
    }

    static void indexThrown(String what, Call call) {
        due(what, thrownBy(call), "IndexOutOfBoundsException");
    }

    static void argumentThrown(String what, Call call) {
        due(what, thrownBy(call), "IllegalArgumentException");
    }

    private static String thrownBy(Call call) {
        try {
            call.make();
            return "nothing";
        } catch (RuntimeException e) {
            return e.getClass().getSimpleName();
        }
    }

    private static void fail(String line) {
        wrong++;
        if (wrong <= 40) {
            System.out.println(line);
        }
    }

    static int wrongSoFar() {
        return wrong;
    }

    /** All 128 octets of a page: as many calls. */
    static int[] page(House x, int page) {
        int[] octets = new int[128];
        for (int i = 0; i < 128; i++) {
            octets[i] = x.octet(page, i);
        }
        return octets;
    }

    /** The sum of the first 120 octets of a page, as section 1 tells it. */
    static long sumOf(int[] octets, int page) {
        long sum = page;
        for (int i = 0; i < 120; i++) {
            sum ^= octets[i];
            sum *= 1099511628211L;
        }
        return sum;
    }

    static long sumOn(int[] octets) {
        long sum = 0;
        for (int i = 120; i < 128; i++) {
            sum = sum << 8 | octets[i];
        }
        return sum;
    }

    static void dueSum(String what, House x, int page, boolean right) {
        int[] octets = page(x, page);
        due(what + ": sum of page " + page, sumOn(octets) == sumOf(octets, page), right);
    }

    /** The octets of a page from the first on, then 0s, then a right sum. */
    static void duePage(String what, House x, int page, int... octets) {
        int[] there = page(x, page);
        for (int i = 0; i < 120; i++) {
            due(what + " octet(" + page + ", " + i + ")", there[i], i < octets.length ? octets[i] : 0);
        }
        due(what + " sum of page " + page, sumOn(there), sumOf(there, page));
    }

    /** Octets of a page from one on. */
    static void dueOctets(String what, House x, int page, int from, int... octets) {
        for (int i = 0; i < octets.length; i++) {
            due(what + " octet(" + page + ", " + (from + i) + ")", x.octet(page, from + i), octets[i]);
        }
    }

    static void dueTold(String what, House x, int... told) {
        for (int i = 0; i < 8; i++) {
            due(what + " told(" + i + ")", x.told(i), told[i]);
        }
    }

    static void end(String name) {
        System.out.println(name + ": " + asked + " answers, " + wrong + " wrong");
        if (wrong > 0) {
            System.exit(1);
        }
    }
}
