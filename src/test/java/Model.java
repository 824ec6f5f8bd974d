import java.util.ArrayList;
import java.util.Arrays;
import java.util.List;
import java.util.TreeMap;
import java.util.TreeSet;

/** The document written down a second time, with lists and maps and no thought of speed. */
final class Model {
    static final class Entry {
        final long key;
        final int kind;
        final long value;

        Entry(long key, int kind, long value) {
            this.key = key;
            this.kind = kind;
            this.value = kind == 2 ? 0 : value;
        }
    }

    static final class Run {
        int number;
        int level;
        final List<Integer> pages = new ArrayList<>();
        final List<List<Entry>> entries = new ArrayList<>();

        int count() {
            int n = 0;
            for (List<Entry> page : entries) {
                n += page.size();
            }
            return n;
        }

        long firstKey() {
            return entries.get(0).get(0).key;
        }

        long lastKey() {
            List<Entry> last = entries.get(entries.size() - 1);
            return last.get(last.size() - 1).key;
        }

        List<Integer> bits(long key) {
            long h = (key ^ (7L * number)) * -7046029254386353131L;
            return List.of((int) (h >>> 55), (int) ((h >>> 46) % 512), (int) ((h >>> 37) % 512));
        }

        boolean bars(long key) {
            TreeSet<Integer> set = new TreeSet<>();
            for (List<Entry> page : entries) {
                for (Entry e : page) {
                    set.addAll(bits(e.key));
                }
            }
            return !set.containsAll(bits(key));
        }
    }

    static final class Cut extends RuntimeException {
        private static final long serialVersionUID = 1L;
    }

    final int pageCount;
    final int[][] octets;
    TreeMap<Long, Entry> table = new TreeMap<>();
    List<Run> now = new ArrayList<>();
    final List<List<Run>> marks = new ArrayList<>();
    int generation = 1;
    int nextNumber = 1;
    int state = 0;
    boolean isDown = false;
    int reads = 0;
    int writes = 0;
    int cutM = 0;
    int cutK = 0;
    int highest = 1; // the greatest page that was written
    List<Entry> asked = new ArrayList<>();

    Model(int pages) {
        pageCount = pages < 4 ? 4 : pages > 1024 ? 1024 : pages;
        octets = new int[pageCount][128];
        for (int i = 0; i < 8; i++) {
            marks.add(null);
        }
        int[] head = headOctets();
        seal(head, 1);
        octets[1] = head;
    }

    // ---- pages

    static long sum(int[] page, int number) {
        long h = number;
        for (int i = 0; i < 120; i++) {
            h = (h ^ page[i]) * 1099511628211L;
        }
        return h;
    }

    static void seal(int[] page, int number) {
        long h = sum(page, number);
        for (int i = 127; i >= 120; i--) {
            page[i] = (int) (h & 255);
            h >>>= 8;
        }
    }

    boolean right(int number) {
        if (number < 0 || number >= pageCount) {
            return false;
        }
        int[] copy = octets[number].clone();
        seal(copy, number);
        return Arrays.equals(copy, octets[number]);
    }

    void write(int number, int[] page) {
        seal(page, number);
        highest = Math.max(highest, number);
        writes++;
        boolean cutNow = cutM == 1;
        if (cutM > 0) {
            cutM--;
        }
        System.arraycopy(page, 0, octets[number], 0, cutNow ? cutK : 128);
        if (cutNow) {
            goDown();
            throw new Cut();
        }
    }

    static void number(List<Integer> to, long n, int size) {
        for (int i = size - 1; i >= 0; i--) {
            to.add((int) (n >>> 8 * i & 255));
        }
    }

    static int[] padded(List<Integer> list) {
        int[] page = new int[128];
        for (int i = 0; i < list.size(); i++) {
            page[i] = list.get(i);
        }
        return page;
    }

    int[] headOctets() {
        List<Integer> o = new ArrayList<>();
        number(o, generation, 4);
        number(o, nextNumber, 2);
        number(o, now.size(), 1);
        for (Run r : now) {
            number(o, r.number, 2);
            number(o, r.level, 1);
            number(o, r.pages.get(0), 2);
            number(o, r.pages.size(), 2);
        }
        return padded(o);
    }

    static int[] pageOctets(int run, int next, List<Entry> entries) {
        List<Integer> o = new ArrayList<>();
        number(o, run, 2);
        number(o, next, 2);
        number(o, entries.size(), 1);
        Entry before = null;
        for (Entry e : entries) {
            o.addAll(entryOctets(e, before));
            before = e;
        }
        return padded(o);
    }

    static List<Integer> keyOctets(long key) {
        List<Integer> o = new ArrayList<>();
        number(o, key, 8);
        o.set(0, o.get(0) ^ 128);
        return o;
    }

    static List<Integer> entryOctets(Entry e, Entry before) {
        List<Integer> key = keyOctets(e.key);
        int shared = 0;
        if (before != null) {
            List<Integer> old = keyOctets(before.key);
            while (shared < 8 && old.get(shared).equals(key.get(shared))) {
                shared++;
            }
        }
        List<Integer> o = new ArrayList<>();
        o.add(shared);
        o.addAll(key.subList(shared, 8));
        o.add(e.kind);
        if (e.kind != 2) {
            long z = e.value >= 0 ? 2 * e.value : -1 - 2 * e.value;
            while (Long.compareUnsigned(z, 127) > 0) {
                o.add((int) (z & 127) + 128);
                z >>>= 7;
            }
            o.add((int) z);
        }
        return o;
    }

    static List<List<Entry>> layout(List<Entry> all) {
        List<List<Entry>> pages = new ArrayList<>();
        int used = 0;
        Entry before = null;
        for (Entry e : all) {
            int size = entryOctets(e, before).size();
            if (before == null || used + size > 120) {
                pages.add(new ArrayList<>());
                used = 5;
                size = entryOctets(e, null).size();
            }
            used += size;
            pages.get(pages.size() - 1).add(e);
            before = e;
        }
        return pages;
    }

    List<Integer> free() {
        TreeSet<Integer> set = new TreeSet<>();
        for (int i = 2; i < pageCount; i++) {
            set.add(i);
        }
        for (Run r : now) {
            set.removeAll(r.pages);
        }
        for (List<Run> m : marks) {
            if (m != null) {
                for (Run r : m) {
                    set.removeAll(r.pages);
                }
            }
        }
        return new ArrayList<>(set);
    }

    /** Null when there are too few free pages. */
    Run writeRun(List<List<Entry>> layout, int level) {
        List<Integer> free = free();
        if (layout.size() > free.size()) {
            return null;
        }
        Run r = new Run();
        r.number = nextNumber++;
        r.level = level;
        for (int i = 0; i < layout.size(); i++) {
            r.pages.add(free.get(i));
            r.entries.add(layout.get(i));
            write(free.get(i), pageOctets(r.number, i + 1 < layout.size() ? free.get(i + 1) : 0, layout.get(i)));
        }
        return r;
    }

    void writeHead() {
        generation++;
        try {
            write(generation % 2, headOctets());
        } catch (Cut c) {
            generation--;
            throw c;
        }
    }

    void lay(int number, int[] first) {
        int[] page = Arrays.copyOf(Arrays.copyOf(first, 120), 128);
        seal(page, number);
        octets[number] = page;
    }

    // ---- calls

    static Entry upon(Entry newer, Entry older) {
        if (newer == null) {
            return older;
        }
        if (older == null || newer.kind != 3) {
            return newer;
        }
        if (older.kind == 2) {
            return new Entry(newer.key, 1, newer.value);
        }
        return new Entry(newer.key, older.kind, newer.value + older.value);
    }

    void up() {
        if (isDown) {
            throw new IllegalStateException();
        }
    }

    boolean noPlace(long key) {
        return table.size() == 64 && !table.containsKey(key);
    }

    int one(int kind, long key, long value) {
        up();
        if (noPlace(key)) {
            throw new IllegalStateException();
        }
        table.put(key, upon(new Entry(key, kind, value), table.get(key)));
        return table.size();
    }

    int many(int kind, int n, long from, long step) {
        up();
        if (kind < 1 || kind > 3 || n < 1 || n > 1000) {
            throw new IllegalArgumentException();
        }
        for (int i = 0; i < n; i++) {
            long key = from + i * step;
            if (noPlace(key)) {
                if (fresh() == 6) {
                    merge();
                }
                if (isDown || flush() == -1 || isDown) {
                    return i;
                }
            }
            one(kind, key, i);
        }
        return n;
    }

    int fresh() {
        int n = 0;
        for (Run r : now) {
            n += r.level == 0 ? 1 : 0;
        }
        return n;
    }

    int flush() {
        up();
        if (table.isEmpty() || fresh() == 6) {
            return -1;
        }
        try {
            Run r = writeRun(layout(new ArrayList<>(table.values())), 0);
            if (r == null) {
                return -1;
            }
            now.add(0, r);
            writeHead();
            table.clear();
            return r.number;
        } catch (Cut c) {
            return 0;
        }
    }

    List<Entry> blended(List<Run> runs, boolean noneOlder) {
        TreeMap<Long, Entry> all = new TreeMap<>();
        for (Run r : runs) {
            for (List<Entry> page : r.entries) {
                for (Entry e : page) {
                    all.put(e.key, upon(all.get(e.key), e));
                }
            }
        }
        List<Entry> list = new ArrayList<>();
        for (Entry e : all.values()) {
            if (!noneOlder) {
                list.add(e);
            } else if (e.kind != 2) {
                list.add(new Entry(e.key, 1, e.value));
            }
        }
        return list;
    }

    boolean readAll(List<Run> runs) {
        for (Run r : runs) {
            for (int p : r.pages) {
                reads++;
                if (!right(p)) {
                    return false;
                }
            }
        }
        return true;
    }

    int merge() {
        up();
        if (fresh() == 0) {
            return -1000000;
        }
        List<Run> taken = new ArrayList<>();
        List<List<Entry>> layout = null;
        int level;
        for (level = 1; level <= 3; level++) {
            List<Run> more = new ArrayList<>();
            for (Run r : now) {
                if (r.level == level || level == 1 && r.level == 0) {
                    more.add(r);
                }
            }
            if (!readAll(more)) {
                return -1000000;
            }
            taken.addAll(more);
            layout = layout(blended(taken, taken.size() == now.size()));
            if (level == 3 || layout.size() <= (level == 1 ? 8 : 24)) {
                break;
            }
        }
        int before = free().size();
        try {
            Run made = null;
            if (!layout.isEmpty()) {
                made = writeRun(layout, level);
                if (made == null) {
                    return -1000000;
                }
            }
            now.removeAll(taken);
            if (made != null) {
                now.add(0, made);
            }
            writeHead();
            return free().size() - before;
        } catch (Cut c) {
            return -2000000;
        }
    }

    int mark() {
        up();
        int n = marks.indexOf(null);
        if (n < 0) {
            return -1;
        }
        if (!table.isEmpty()) {
            int flushed = flush();
            if (flushed == -1 || isDown) {
                return isDown ? -2 : -1;
            }
        }
        marks.set(n, new ArrayList<>(now));
        return n;
    }

    int release(int mark) {
        up();
        runsOf(mark, false);
        int before = free().size();
        marks.set(mark, null);
        return free().size() - before;
    }

    List<Run> runsOf(int mark, boolean nowToo) {
        up();
        if (mark == -1 && nowToo) {
            return now;
        }
        if (mark < 0 || mark > 7 || marks.get(mark) == null) {
            throw new IndexOutOfBoundsException();
        }
        return marks.get(mark);
    }

    long get(int mark, long key) {
        List<Run> runs = runsOf(mark, true);
        Entry e = mark == -1 ? table.get(key) : null;
        for (Run r : runs) {
            if (e != null && e.kind != 3) {
                break;
            }
            if (key < r.firstKey() || key > r.lastKey() || r.bars(key)) {
                continue;
            }
            int page = 0;
            for (int i = 0; i < r.pages.size(); i++) {
                if (r.entries.get(i).get(0).key <= key) {
                    page = i;
                }
            }
            reads++;
            if (!right(r.pages.get(page))) {
                state = 3;
                return 0;
            }
            for (Entry there : r.entries.get(page)) {
                if (there.key == key) {
                    e = upon(e, there);
                }
            }
        }
        state = e == null ? 0 : e.kind == 2 ? 2 : 1;
        return e == null ? 0 : e.value;
    }

    int range(int mark, long from, long to) {
        List<Run> runs = runsOf(mark, true);
        if (from > to) {
            throw new IllegalArgumentException();
        }
        asked = new ArrayList<>();
        if (!readAll(runs)) {
            state = 3;
            return -1;
        }
        state = 1;
        List<Run> all = new ArrayList<>(runs);
        if (mark == -1) {
            Run first = new Run();
            first.entries.add(new ArrayList<>(table.values()));
            all.add(0, first);
        }
        for (Entry e : blended(all, true)) {
            if (e.key >= from && e.key <= to) {
                asked.add(e);
            }
        }
        return asked.size();
    }

    long at(int i, int what) {
        if (i < 0 || i >= asked.size() || i >= 200 || what < 0 || what > 1) {
            throw new IndexOutOfBoundsException();
        }
        return what == 0 ? asked.get(i).key : asked.get(i).value;
    }

    int run(int i, int what) {
        if (i < 0 || i >= now.size() || what < 0 || what > 4) {
            throw new IndexOutOfBoundsException();
        }
        Run r = now.get(i);
        return new int[] {r.number, r.level, r.pages.size(), r.count(), r.pages.get(0)}[what];
    }

    boolean hidden(long key) {
        up();
        for (Run r : now) {
            if (r.firstKey() <= key && key <= r.lastKey() && r.bars(key)) {
                return true;
            }
        }
        return false;
    }

    int octet(int page, int i) {
        if (page < 0 || page >= pageCount || i < 0 || i > 127) {
            throw new IndexOutOfBoundsException();
        }
        return octets[page][i];
    }

    void poke(int page, int i, int mask) {
        octet(page, i);
        if (!right(page)) {
            throw new IllegalStateException();
        }
        if (mask < 1 || mask > 255) {
            throw new IllegalArgumentException();
        }
        octets[page][i] ^= mask;
    }

    int badAt() {
        if (isDown) {
            return -1;
        }
        List<Integer> free = free();
        for (int p = 0; p < pageCount; p++) {
            boolean counts = p < 2 ? p == generation % 2 : !free.contains(p);
            if (counts && !right(p)) {
                return p;
            }
        }
        return -1;
    }

    void cut(int m, int k) {
        if (m < 0 || m > 1000 || k < 0 || k > 127) {
            throw new IllegalArgumentException();
        }
        cutM = m;
        cutK = k;
    }

    void goDown() {
        isDown = true;
        table.clear();
        now = new ArrayList<>();
        for (int i = 0; i < 8; i++) {
            marks.set(i, null);
        }
    }

    boolean down() {
        if (isDown) {
            return false;
        }
        goDown();
        return true;
    }

    int read(int page, int i, int size) {
        int n = 0;
        for (int j = 0; j < size; j++) {
            n = n << 8 | octets[page][i + j];
        }
        return n;
    }

    boolean headRight(int h) {
        int generation = read(h, 0, 4);
        int count = octets[h][6];
        if (!right(h) || generation == 0 || generation % 2 != h || count > 9) {
            return false;
        }
        List<Integer> levels = new ArrayList<>();
        for (int i = 0; i < count; i++) {
            levels.add(octets[h][9 + 7 * i]);
            if (read(h, 12 + 7 * i, 2) == 0) {
                return false;
            }
        }
        int fresh = 0;
        while (fresh < count && levels.get(fresh) == 0) {
            fresh++;
        }
        List<Integer> others = levels.subList(fresh, count);
        return fresh <= 6 && List.of(1, 2, 3).containsAll(others)
                && others.equals(new ArrayList<>(new TreeSet<>(others)));
    }

    int open() {
        if (!isDown) {
            throw new IllegalStateException();
        }
        int head = -1;
        for (int h = 0; h < 2; h++) {
            if (headRight(h) && (head < 0 || read(h, 0, 4) > read(head, 0, 4))) {
                head = h;
            }
        }
        if (head < 0) {
            return -1;
        }
        List<Run> opened = new ArrayList<>();
        for (int i = 0; i < octets[head][6]; i++) {
            Run r = new Run();
            r.number = read(head, 7 + 7 * i, 2);
            r.level = read(head, 9 + 7 * i, 1);
            int page = read(head, 10 + 7 * i, 2);
            for (int j = read(head, 12 + 7 * i, 2); j > 0; j--) {
                reads++;
                if (page < 2 || !right(page) || read(page, 0, 2) != r.number || !takePage(r, page)) {
                    return -2 - page;
                }
                page = read(page, 2, 2);
            }
            opened.add(r);
        }
        now = opened;
        isDown = false;
        generation = read(head, 0, 4);
        nextNumber = read(head, 4, 2);
        return now.size();
    }

    boolean takePage(Run r, int page) {
        List<Entry> list = decode(octets[page]);
        if (list == null || list.isEmpty()) {
            return false;
        }
        for (int i = 0; i < list.size(); i++) {
            boolean first = i == 0 && r.entries.isEmpty();
            long before = first ? 0 : i > 0 ? list.get(i - 1).key : r.lastKey();
            if (!first && list.get(i).key <= before) {
                return false;
            }
        }
        r.pages.add(page);
        r.entries.add(list);
        return true;
    }

    /** Null when something is not written as told. */
    static List<Entry> decode(int[] page) {
        List<Entry> list = new ArrayList<>();
        int[] key = new int[8];
        int p = 5;
        for (int n = page[4]; n > 0; n--) {
            int[] old = key.clone();
            int shared = page[p++];
            if (shared > (list.isEmpty() ? 0 : 8) || p + 8 - shared >= 120) {
                return null;
            }
            for (int i = shared; i < 8; i++) {
                key[i] = page[p++];
            }
            if (!list.isEmpty() && shared < 8 && old[shared] == key[shared]) {
                return null;
            }
            int kind = page[p++];
            if (kind < 1 || kind > 3) {
                return null;
            }
            long z = 0;
            for (int shift = 0; kind != 2; shift += 7) {
                if (p >= 120 || shift > 63) {
                    return null;
                }
                int octet = page[p++];
                if (shift > 0 && octet == 0 || shift == 63 && octet > 1) {
                    return null;
                }
                z |= (long) (octet & 127) << shift;
                if (octet < 128) {
                    break;
                }
            }
            long k = 0;
            for (int i = 0; i < 8; i++) {
                k = k << 8 | (i == 0 ? key[i] ^ 128 : key[i]);
            }
            list.add(new Entry(k, kind, z % 2 == 0 ? z >>> 1 : ~(z >>> 1)));
            if (p >= 120 && n > 1) {
                return null;
            }
        }
        for (; p < 120; p++) {
            if (page[p] != 0) {
                return null;
            }
        }
        return list;
    }

    int told(int what) {
        int held = 8;
        for (List<Run> m : marks) {
            held -= m == null ? 1 : 0;
        }
        switch (what) {
            case 0: return isDown ? 0 : free().size();
            case 1: return table.size();
            case 2: return reads;
            case 3: return writes;
            case 4: return now.size();
            case 5: return held;
            case 6: return generation;
            case 7: return isDown ? 1 : 0;
            default: throw new IndexOutOfBoundsException();
        }
    }
}
