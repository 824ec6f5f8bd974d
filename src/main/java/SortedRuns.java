/** Sorted runs on pages with sums, as ../shared/DOC.md promises them. */
public final class SortedRuns {
    public static final int NONE = -1;

    private static final int PAGE = 128;
    private static final int BODY = 120;
    private static final int HEADS = 2;
    private static final int NEXT_AT = 2;
    private static final int COUNT_AT = 4;
    private static final int ENTRIES_AT = 5;
    private static final int HEAD_RUNS_AT = 7;
    private static final int HEAD_RUN_SIZE = 7;
    private static final int PAGES_LEAST = 4;
    private static final int PAGES_MOST = 1024;

    // The least key, and the bit in which a key and its octets on a page differ.
    private static final long LEAST_KEY = 1L << 63;

    private static final int NOTHING = 0;
    private static final int PUT = 1;
    private static final int END = 2;
    private static final int ADD = 3;

    private static final int TABLE_MOST = 64;
    private static final int FRESH_MOST = 6;
    private static final int LEVEL_LAST = 3;
    private static final int RUNS_MOST = 9;
    private static final int MARKS_MOST = 8;
    private static final int ASKED_MOST = 200;
    private static final int MANY_MOST = 1000;
    private static final int PAGE_ENTRIES_MOST = 255;
    // Far above the entries that 1022 pages can hold: it only shows that loops end.
    private static final int STEPS_MOST = 1000000;

    private static final int STATE_VALUE = 1;
    private static final int STATE_END = 2;
    private static final int STATE_BAD = 3;
    private static final int FLUSH_CUT = 0;
    private static final int FLUSHED = 1;
    private static final int MARK_CUT = -2;
    private static final int MERGE_REFUSED = -1000000;
    private static final int MERGE_CUT = -2000000;
    private static final int OPEN_WRONG = -2;

    private final Pages pages;
    private final Space space;
    private final Table table = new Table();
    private final RunList now = new RunList();
    private final RunList[] marks = new RunList[MARKS_MOST];
    private final Blend blend;
    private final RunStream finder;
    private final Fate found = new Fate();
    private final Sheet sheet = new Sheet();
    private final long[] answerKeys = new long[ASKED_MOST];
    private final long[] answerValues = new long[ASKED_MOST];

    private int answerCount = 0;
    private int generation = 1;
    private int nextNumber = 1;
    private int state = 0;
    private boolean down = false;

    public SortedRuns(int pages) {
        int count = Math.max(PAGES_LEAST, Math.min(PAGES_MOST, pages));
        this.pages = new Pages(count);
        this.space = new Space(count);
        this.blend = new Blend(this.table, this.pages, this.space);
        this.finder = new RunStream(this.pages, this.space);
        for (int i = 0; i < MARKS_MOST; i++) {
            this.marks[i] = new RunList();
        }
        fillHead(generation);
        this.sheet.seal(1);
        this.pages.lay(1, this.sheet, PAGE);
        this.pages.checkSum(1);
    }

    // ---- the table

    public int put(long key, long value) throws IllegalStateException {
        return enterOne(key, PUT, value);
    }

    public int remove(long key) throws IllegalStateException {
        return enterOne(key, END, 0);
    }

    public int fold(long key, long value) throws IllegalStateException {
        return enterOne(key, ADD, value);
    }

    private int enterOne(long key, int kind, long value) {
        requireUp();
        if (!table.hasPlaceFor(key)) {
            throw new IllegalStateException("no place in the table");
        }
        table.enter(key, kind, value);
        return table.size;
    }

    private void requireUp() {
        if (down) {
            throw new IllegalStateException("down");
        }
    }

    public int many(int kind, int n, long from, long step)
            throws IllegalStateException, IllegalArgumentException {
        requireUp();
        if (!isKind(kind) || n < 1 || n > MANY_MOST) {
            throw new IllegalArgumentException("no such kind, or not 1 to 1000");
        }
        long key = from;
        for (int came = 0; came < n; came++) {
            if (!table.hasPlaceFor(key)) {
                if (now.countUpTo(0) == FRESH_MOST) {
                    mergeRuns();
                }
                if (down || flushTable() != FLUSHED) {
                    return came;
                }
            }
            table.enter(key, kind, came);
            key += step;
        }
        return n;
    }

    private static boolean isKind(int kind) {
        return kind == PUT || kind == END || kind == ADD;
    }

    // ---- flush and merge

    public int flush() throws IllegalStateException {
        requireUp();
        int ended = flushTable();
        return ended == FLUSHED ? now.runs[0].number : ended;
    }

    public int merge() throws IllegalStateException {
        requireUp();
        return mergeRuns();
    }

    /** FLUSHED, FLUSH_CUT or NONE; no run's number, which may be 0 when a head was opened that says so. */
    private int flushTable() {
        if (table.size == 0 || now.countUpTo(0) >= FRESH_MOST) {
            return NONE;
        }
        blendTable();
        if (countPages(space.free) > space.free) {
            return NONE;
        }
        blendTable();
        Run made = writeRun(0);
        if (down) {
            return FLUSH_CUT;
        }
        now.putFirst(made);
        writeHead();
        if (down) {
            return FLUSH_CUT;
        }
        table.size = 0;
        return FLUSHED;
    }

    private int mergeRuns() {
        if (now.countUpTo(0) == 0) {
            return MERGE_REFUSED;
        }
        int level = 0;
        int taken = 0;
        int need = 0;
        do {
            level++;
            int upTo = now.countUpTo(level);
            if (!readRuns(now, taken, upTo)) {
                return MERGE_REFUSED;
            }
            taken = upTo;
            blendRuns(taken);
            need = countPages(mostPages(level));
        } while (level < LEVEL_LAST && need > mostPages(level));
        if (need > space.free) {
            return MERGE_REFUSED;
        }
        return writeMerged(level, taken, need);
    }

    private static int mostPages(int level) {
        return level == 1 ? 8 : level == 2 ? 24 : PAGES_MOST;
    }

    private int writeMerged(int level, int taken, int need) {
        int freeBefore = space.free;
        Run made = now.runs[0];
        if (need > 0) {
            blendRuns(taken);
            made = writeRun(level);
            if (down) {
                return MERGE_CUT;
            }
        }
        for (int i = 0; i < taken && i < RUNS_MOST; i++) {
            letGo(now.runs[i]);
        }
        now.dropFirst(taken);
        if (need > 0) {
            now.putFirst(made);
        }
        writeHead();
        return down ? MERGE_CUT : space.free - freeBefore;
    }

    private void letGo(Run run) {
        run.holders--;
        if (run.holders == 0) {
            space.giveBack(run);
        }
    }

    private boolean readRuns(RunList list, int first, int end) {
        for (int i = first; i < end && i < RUNS_MOST; i++) {
            Run run = list.runs[i];
            int page = run.firstPage;
            for (int p = 0; p < run.pageCount; p++) {
                if (!pages.readsRight(page)) {
                    return false;
                }
                page = space.after(page);
            }
        }
        return true;
    }

    private void blendTable() {
        blend.begin(false);
        blend.addTable();
    }

    private void blendRuns(int taken) {
        blend.begin(taken == now.size);
        for (int i = 0; i < taken && i < RUNS_MOST; i++) {
            blend.addRun(now.runs[i], LEAST_KEY);
        }
    }

    /** How many pages the blend needs; it is not gone through further once they are too many. */
    private int countPages(int most) {
        int count = 0;
        for (int i = 0; i < STEPS_MOST && count <= most && blend.advance(); i++) {
            if (count == 0 || !sheet.fits(blend.key, blend.fate)) {
                count++;
                sheet.beginPage(0);
            }
            sheet.append(blend.key, blend.fate);
        }
        return count;
    }

    /** What the blend gives, on the least free pages (the caller has counted them). */
    private Run writeRun(int level) {
        Run made = new Run(nextNumber, level);
        nextNumber++;
        int page = space.leastFree(HEADS);
        made.firstPage = page;
        sheet.beginPage(made.number);
        for (int i = 0; i < STEPS_MOST && blend.advance(); i++) {
            if (!sheet.fits(blend.key, blend.fate)) {
                int next = space.leastFree(page + 1);
                writePage(made, page, next);
                if (down) {
                    return made;
                }
                page = next;
                sheet.beginPage(made.number);
            }
            sheet.append(blend.key, blend.fate);
            made.note(blend.key);
        }
        writePage(made, page, 0);
        return made;
    }

    private void writePage(Run made, int page, int next) {
        sheet.finishPage(next);
        space.claim(page, next, sheet.firstKey);
        made.pageCount++;
        if (!pages.store(page, sheet)) {
            goDown();
        }
    }

    private void writeHead() {
        int coming = generation + 1;
        fillHead(coming);
        if (pages.store(coming & 1, sheet)) {
            generation = coming;
        } else {
            goDown();
        }
    }

    private void fillHead(int coming) {
        sheet.clear();
        sheet.two(coming >>> 16);
        sheet.two(coming);
        sheet.two(nextNumber);
        sheet.one(now.size);
        for (int i = 0; i < now.size && i < RUNS_MOST; i++) {
            Run run = now.runs[i];
            sheet.two(run.number);
            sheet.one(run.level);
            sheet.two(run.firstPage);
            sheet.two(run.pageCount);
        }
    }

    // ---- marks

    public int mark() throws IllegalStateException {
        requireUp();
        int number = leastFreeMark();
        if (number == NONE) {
            return NONE;
        }
        if (table.size > 0) {
            int ended = flushTable();
            if (ended != FLUSHED) {
                return ended == FLUSH_CUT ? MARK_CUT : NONE;
            }
        }
        marks[number].keep(now);
        return number;
    }

    private int leastFreeMark() {
        for (int i = 0; i < MARKS_MOST; i++) {
            if (!marks[i].kept) {
                return i;
            }
        }
        return NONE;
    }

    public int release(int mark) throws IllegalStateException, IndexOutOfBoundsException {
        RunList gone = runsOfMark(mark);
        int freeBefore = space.free;
        for (int i = 0; i < gone.size && i < RUNS_MOST; i++) {
            letGo(gone.runs[i]);
        }
        gone.forget();
        return space.free - freeBefore;
    }

    private RunList runsOfMark(int mark) {
        requireUp();
        if (mark < 0 || mark >= MARKS_MOST || !marks[mark].kept) {
            throw new IndexOutOfBoundsException("no such mark");
        }
        return marks[mark];
    }

    /** Of now, when no mark is named. */
    private RunList runsOf(int mark) {
        requireUp();
        return mark == NONE ? now : runsOfMark(mark);
    }

    // ---- looking up

    public long get(int mark, long key) throws IllegalStateException, IndexOutOfBoundsException {
        RunList list = runsOf(mark);
        found.begin(NOTHING, 0);
        if (mark == NONE) {
            table.lookUp(key, found);
        }
        if (!lookThrough(list, key)) {
            state = STATE_BAD;
            return 0;
        }
        state = found.kind == NOTHING ? 0 : found.kind == END ? STATE_END : STATE_VALUE;
        return state == STATE_VALUE ? found.value : 0;
    }

    /** False when a page that had to be read is bad. */
    private boolean lookThrough(RunList list, long key) {
        for (int i = 0; i < list.size && i < RUNS_MOST && found.wantsOlder(); i++) {
            Run run = list.runs[i];
            if (!run.spans(key) || run.bars(key)) {
                continue;
            }
            finder.start(run, key);
            if (!pages.readsRight(finder.comingPage)) {
                return false;
            }
            finder.startPage(finder.comingPage);
            findInPage(key);
        }
        return true;
    }

    private void findInPage(long key) {
        finder.step();
        for (int i = 0; i < PAGE_ENTRIES_MOST && finder.there && finder.key < key; i++) {
            finder.step();
        }
        if (finder.there && finder.key == key) {
            found.layUpon(finder.kind, finder.value);
        }
    }

    public int state() {
        return state;
    }

    public boolean hidden(long key) throws IllegalStateException {
        requireUp();
        for (int i = 0; i < now.size && i < RUNS_MOST; i++) {
            if (now.runs[i].spans(key) && now.runs[i].bars(key)) {
                return true;
            }
        }
        return false;
    }

    public int range(int mark, long from, long to)
            throws IllegalStateException, IndexOutOfBoundsException, IllegalArgumentException {
        RunList list = runsOf(mark);
        if (from > to) {
            throw new IllegalArgumentException("from is above to");
        }
        answerCount = 0;
        if (!readRuns(list, 0, list.size)) {
            state = STATE_BAD;
            return NONE;
        }
        state = STATE_VALUE;
        // As at the oldest end of a merge: what has no value falls out.
        blend.begin(true);
        if (mark == NONE) {
            blend.addTable();
        }
        for (int i = 0; i < list.size && i < RUNS_MOST; i++) {
            blend.addRun(list.runs[i], from);
        }
        return gatherAnswers(from, to);
    }

    private int gatherAnswers(long from, long to) {
        int count = 0;
        for (int i = 0; i < STEPS_MOST && blend.advance() && blend.key <= to; i++) {
            if (blend.key >= from) {
                noteAnswer(blend.key, blend.fate.value);
                count++;
            }
        }
        return count;
    }

    private void noteAnswer(long key, long value) {
        if (answerCount < ASKED_MOST) {
            answerKeys[answerCount] = key;
            answerValues[answerCount] = value;
            answerCount++;
        }
    }

    public long at(int i, int what) throws IndexOutOfBoundsException {
        if (i < 0 || i >= answerCount || i >= ASKED_MOST || what < 0 || what > 1) {
            throw new IndexOutOfBoundsException("no such key of the range");
        }
        return what == 0 ? answerKeys[i] : answerValues[i];
    }

    public int run(int i, int what) throws IndexOutOfBoundsException {
        if (i < 0 || i >= now.size || i >= RUNS_MOST || what < 0 || what > 4) {
            throw new IndexOutOfBoundsException("no such run");
        }
        Run run = now.runs[i];
        switch (what) {
            case 0:
                return run.number;
            case 1:
                return run.level;
            case 2:
                return run.pageCount;
            case 3:
                return run.entries;
            default:
                return run.firstPage;
        }
    }

    // ---- pages

    public int octet(int page, int i) throws IndexOutOfBoundsException {
        requireOctet(page, i);
        return pages.peek(page, i);
    }

    private void requireOctet(int page, int i) {
        if (!pages.has(page) || i < 0 || i >= PAGE) {
            throw new IndexOutOfBoundsException("no such octet");
        }
    }

    public void poke(int page, int i, int mask)
            throws IndexOutOfBoundsException, IllegalStateException, IllegalArgumentException {
        requireOctet(page, i);
        if (!pages.isRight(page)) {
            throw new IllegalStateException("its sum is wrong already");
        }
        if (mask < 1 || mask > 255) {
            throw new IllegalArgumentException("mask is not 1 to 255");
        }
        pages.turn(page, i, mask);
    }

    public int badAt() {
        if (down) {
            return NONE;
        }
        int head = generation & 1;
        int least = pages.isRight(head) ? PAGES_MOST : head;
        least = Math.min(least, leastWrong(now));
        for (int i = 0; i < MARKS_MOST; i++) {
            least = Math.min(least, leastWrong(marks[i]));
        }
        return least == PAGES_MOST ? NONE : least;
    }

    private int leastWrong(RunList list) {
        int least = PAGES_MOST;
        for (int i = 0; i < list.size && i < RUNS_MOST; i++) {
            int page = list.runs[i].firstPage;
            for (int p = 0; p < list.runs[i].pageCount; p++) {
                if (!pages.isRight(page)) {
                    least = Math.min(least, page);
                }
                page = space.after(page);
            }
        }
        return least;
    }

    public void cut(int m, int k) throws IllegalArgumentException {
        if (m < 0 || m > 1000 || k < 0 || k >= PAGE) {
            throw new IllegalArgumentException("not 0 to 1000, or not 0 to 127");
        }
        pages.cutIn = m;
        pages.cutBehind = k;
    }

    // ---- down and open

    public boolean down() {
        if (down) {
            return false;
        }
        goDown();
        return true;
    }

    private void goDown() {
        down = true;
        table.size = 0;
        now.forget();
        for (int i = 0; i < MARKS_MOST; i++) {
            marks[i].forget();
        }
        space.clear();
    }

    public int open() throws IllegalStateException {
        if (!down) {
            throw new IllegalStateException("not down");
        }
        int head = newestHead();
        if (head == NONE) {
            return -1;
        }
        int count = pages.peek(head, HEAD_RUNS_AT - 1);
        for (int i = 0; i < count; i++) {
            int at = HEAD_RUNS_AT + i * HEAD_RUN_SIZE;
            Run run = new Run(pages.two(head, at), pages.peek(head, at + 2));
            run.firstPage = pages.two(head, at + 3);
            int wrong = openRun(run, pages.two(head, at + 5));
            if (wrong != NONE) {
                goDown();
                return OPEN_WRONG - wrong;
            }
            now.putLast(run);
        }
        generation = (int) pages.four(head, 0);
        nextNumber = pages.two(head, 4);
        down = false;
        return now.size;
    }

    private int newestHead() {
        boolean zero = headIsRight(0);
        boolean one = headIsRight(1);
        if (zero && one) {
            return pages.four(0, 0) > pages.four(1, 0) ? 0 : 1;
        }
        return zero ? 0 : one ? 1 : NONE;
    }

    private boolean headIsRight(int head) {
        long its = pages.four(head, 0);
        int count = pages.peek(head, HEAD_RUNS_AT - 1);
        if (!pages.isRight(head) || its == 0 || (its & 1) != head || count > RUNS_MOST) {
            return false;
        }
        int fresh = 0;
        int before = 0;
        for (int i = 0; i < count; i++) {
            int at = HEAD_RUNS_AT + i * HEAD_RUN_SIZE;
            int level = pages.peek(head, at + 2);
            boolean follows = level == 0 ? before == 0 : level > before;
            if (!follows || level > LEVEL_LAST || pages.two(head, at + 5) == 0) {
                return false;
            }
            fresh += level == 0 ? 1 : 0;
            before = level;
        }
        return fresh <= FRESH_MOST;
    }

    /** Reads the pages of a run, which learns its keys: the first wrong page, or NONE. */
    private int openRun(Run run, int pageCount) {
        int page = run.firstPage;
        for (int i = 0; i < pageCount; i++) {
            boolean sumRight = pages.readsRight(page);
            if (page < HEADS || !sumRight || !openPage(run, page)) {
                return page;
            }
            int next = pages.two(page, NEXT_AT);
            space.claim(page, next, sheet.firstKey);
            run.pageCount++;
            page = next;
        }
        return NONE;
    }

    /** Writes the page's entries anew: a page is as told if that gives the same octets. */
    private boolean openPage(Run run, int page) {
        sheet.beginPage(run.number);
        finder.startPage(page);
        finder.step();
        for (int i = 0; i < PAGE_ENTRIES_MOST && finder.there; i++) {
            boolean rises = run.entries == 0 || finder.key > run.lastKey;
            found.begin(finder.kind, finder.value);
            if (!rises || !isKind(finder.kind) || !sheet.fits(finder.key, found)) {
                return false;
            }
            sheet.append(finder.key, found);
            run.note(finder.key);
            finder.step();
        }
        sheet.finishPage(pages.two(page, NEXT_AT));
        return sheet.entries > 0 && pages.bodyIs(page, sheet);
    }

    public int told(int what) throws IndexOutOfBoundsException {
        if (what < 0 || what > 7) {
            throw new IndexOutOfBoundsException("no such thing is told");
        }
        switch (what) {
            case 0:
                return down ? 0 : space.free;
            case 1:
                return table.size;
            case 2:
                return pages.reads;
            case 3:
                return pages.writes;
            case 4:
                return now.size;
            case 5:
                return countMarks();
            case 6:
                return generation;
            default:
                return down ? 1 : 0;
        }
    }

    private int countMarks() {
        int count = 0;
        for (int i = 0; i < MARKS_MOST; i++) {
            count += marks[i].kept ? 1 : 0;
        }
        return count;
    }

    // ---- classes inside

    /** What the entries of one key come to, gathered from the newest to older ones. */
    private static final class Fate {
        int kind = NOTHING;
        long value = 0;

        void begin(int newestKind, long newestValue) {
            kind = newestKind;
            value = newestValue;
        }

        boolean wantsOlder() {
            return kind == NOTHING || kind == ADD;
        }

        /** An older entry comes below what is here; a PUT or END hides it. */
        void layUpon(int olderKind, long olderValue) {
            if (kind == NOTHING) {
                kind = olderKind;
                value = olderValue;
            } else if (kind == ADD) {
                value += olderKind == END ? 0 : olderValue;
                kind = olderKind == ADD ? ADD : PUT;
            }
        }
    }

    /** The entries not yet in a run, by keys. */
    private static final class Table {
        final long[] keys = new long[TABLE_MOST];
        final int[] kinds = new int[TABLE_MOST];
        final long[] values = new long[TABLE_MOST];
        final Fate fate = new Fate();
        int size = 0;

        /** How many of the keys are below this one. */
        int placeOf(long key) {
            int low = 0;
            int high = size;
            for (int i = 0; i < TABLE_MOST && low < high; i++) {
                int middle = (low + high) >>> 1;
                if (middle < TABLE_MOST && keys[middle] < key) {
                    low = middle + 1;
                } else {
                    high = middle;
                }
            }
            return low;
        }

        boolean holds(int place, long key) {
            return place >= 0 && place < size && place < TABLE_MOST && keys[place] == key;
        }

        boolean hasPlaceFor(long key) {
            return size < TABLE_MOST || holds(placeOf(key), key);
        }

        void enter(long key, int kind, long value) {
            int place = placeOf(key);
            fate.begin(kind, kind == END ? 0 : value);
            if (holds(place, key)) {
                fate.layUpon(kinds[place], values[place]);
            } else if (size < TABLE_MOST) {
                shiftFrom(place);
            }
            if (place >= 0 && place < TABLE_MOST) {
                keys[place] = key;
                kinds[place] = fate.kind;
                values[place] = fate.value;
            }
        }

        private void shiftFrom(int place) {
            for (int i = size; i > place && i > 0 && i < TABLE_MOST; i--) {
                keys[i] = keys[i - 1];
                kinds[i] = kinds[i - 1];
                values[i] = values[i - 1];
            }
            size++;
        }

        void lookUp(long key, Fate into) {
            int place = placeOf(key);
            if (holds(place, key)) {
                into.layUpon(kinds[place], values[place]);
            }
        }
    }

    /** What is known of a run without reading it; its pages are a chain in the space. */
    private static final class Run {
        final int number;
        final int level;
        final long[] filter = new long[8];
        int firstPage = 0;
        int pageCount = 0;
        int entries = 0;
        long firstKey = 0;
        long lastKey = 0;
        int holders = 0;

        Run(int number, int level) {
            this.number = number;
            this.level = level;
        }

        /** Keys are noted as they rise. */
        void note(long key) {
            if (entries == 0) {
                firstKey = key;
            }
            lastKey = key;
            entries++;
            long hash = hashOf(key);
            setBit(hash >>> 55);
            setBit(hash >>> 46);
            setBit(hash >>> 37);
        }

        boolean spans(long key) {
            return entries > 0 && firstKey <= key && key <= lastKey;
        }

        boolean bars(long key) {
            long hash = hashOf(key);
            return !hasBit(hash >>> 55) || !hasBit(hash >>> 46) || !hasBit(hash >>> 37);
        }

        private long hashOf(long key) {
            return (key ^ 7L * number) * -7046029254386353131L;
        }

        private void setBit(long bit) {
            filter[(int) (bit >>> 6) & 7] |= 1L << (bit & 63);
        }

        private boolean hasBit(long bit) {
            return (filter[(int) (bit >>> 6) & 7] >>> (bit & 63) & 1) != 0;
        }
    }

    /** Runs of now or of a mark, newest first. */
    private static final class RunList {
        final Run[] runs = new Run[RUNS_MOST];
        int size = 0;
        boolean kept = false;

        RunList() {
            // No place is ever null, so none has to be tested for it.
            Run blank = new Run(0, 0);
            for (int i = 0; i < RUNS_MOST; i++) {
                runs[i] = blank;
            }
        }

        /** The runs of this level and of those before it are the first ones. */
        int countUpTo(int level) {
            int count = 0;
            while (count < size && count < RUNS_MOST && runs[count].level <= level) {
                count++;
            }
            return count;
        }

        void putFirst(Run run) {
            if (size >= RUNS_MOST) {
                return;
            }
            for (int i = size; i > 0; i--) {
                runs[i] = runs[i - 1];
            }
            runs[0] = run;
            run.holders++;
            size++;
        }

        void putLast(Run run) {
            if (size >= RUNS_MOST) {
                return;
            }
            runs[size] = run;
            run.holders++;
            size++;
        }

        void dropFirst(int count) {
            int left = size - count;
            for (int i = 0; i < left && i + count < RUNS_MOST; i++) {
                runs[i] = runs[i + count];
            }
            size = Math.max(0, left);
        }

        void keep(RunList others) {
            kept = true;
            size = 0;
            for (int i = 0; i < others.size && i < RUNS_MOST; i++) {
                putLast(others.runs[i]);
            }
        }

        void forget() {
            kept = false;
            size = 0;
        }
    }

    /** Which pages are free, and of the others what is known without reading them. */
    private static final class Space {
        final int count;
        // How many runs have a page: more than one can, when a head was opened that says so.
        final int[] holders;
        final int[] next;
        final long[] firstKeys;
        int free;

        Space(int count) {
            this.count = count;
            this.holders = new int[count];
            this.next = new int[count];
            this.firstKeys = new long[count];
            this.free = count - HEADS;
        }

        boolean has(int page) {
            return page >= HEADS && page < count;
        }

        void clear() {
            for (int i = 0; i < count; i++) {
                holders[i] = 0;
            }
            free = count - HEADS;
        }

        int leastFree(int from) {
            for (int page = Math.max(HEADS, from); page < count; page++) {
                if (holders[page] == 0) {
                    return page;
                }
            }
            return 0;
        }

        void claim(int page, int following, long firstKey) {
            if (!has(page)) {
                return;
            }
            free -= holders[page] == 0 ? 1 : 0;
            holders[page]++;
            next[page] = following;
            firstKeys[page] = firstKey;
        }

        int after(int page) {
            return has(page) ? next[page] : 0;
        }

        boolean beginsAbove(int page, long key) {
            return !has(page) || firstKeys[page] > key;
        }

        void giveBack(Run run) {
            int page = run.firstPage;
            for (int i = 0; i < run.pageCount && has(page); i++) {
                holders[page]--;
                free += holders[page] == 0 ? 1 : 0;
                page = next[page];
            }
        }
    }

    /** 128 octets to be written: a head, or a page of a run with its entries. */
    private static final class Sheet {
        final byte[] octets = new byte[PAGE];
        int used = 0;
        int entries = 0;
        long firstKey = 0;
        long lastKey = 0;

        void clear() {
            for (int i = 0; i < PAGE; i++) {
                octets[i] = 0;
            }
            used = 0;
            entries = 0;
        }

        void one(int number) {
            if (used < BODY) {
                octets[used] = (byte) number;
                used++;
            }
        }

        void two(int number) {
            one(number >>> 8);
            one(number);
        }

        void beginPage(int number) {
            clear();
            two(number);
            used = ENTRIES_AT;
        }

        boolean fits(long key, Fate fate) {
            int size = 1 + 8 - shared(key) + 1;
            if (fate.kind != END) {
                size += sizeOf(folded(fate.value));
            }
            return used + size <= BODY;
        }

        void append(long key, Fate fate) {
            int shared = shared(key);
            long turned = key ^ LEAST_KEY;
            one(shared);
            for (int i = shared; i < 8; i++) {
                one((int) (turned >>> 56 - 8 * i));
            }
            one(fate.kind);
            if (fate.kind != END) {
                appendValue(folded(fate.value));
            }
            if (entries == 0) {
                firstKey = key;
            }
            lastKey = key;
            entries++;
        }

        private void appendValue(long z) {
            long left = z;
            for (int i = sizeOf(z); i > 1; i--) {
                one((int) (left & 127) | 128);
                left >>>= 7;
            }
            one((int) left);
        }

        void finishPage(int next) {
            octets[NEXT_AT] = (byte) (next >>> 8);
            octets[NEXT_AT + 1] = (byte) next;
            octets[COUNT_AT] = (byte) entries;
        }

        private int shared(long key) {
            long differs = key ^ lastKey;
            int count = 0;
            while (entries > 0 && count < 8 && (differs >>> 56 - 8 * count & 255) == 0) {
                count++;
            }
            return count;
        }

        private static long folded(long value) {
            return value < 0 ? -1 - value * 2 : value * 2;
        }

        private static int sizeOf(long z) {
            int size = 1;
            while (size < 10 && z >>> 7 * size != 0) {
                size++;
            }
            return size;
        }

        void seal(int page) {
            long sum = sumOf(octets, 0, page);
            for (int i = 0; i < PAGE - BODY; i++) {
                octets[BODY + i] = (byte) (sum >>> 56 - 8 * i);
            }
        }

        static long sumOf(byte[] octets, int start, int page) {
            long sum = page;
            for (int i = 0; i < BODY && start >= 0 && start + i < octets.length; i++) {
                sum = (sum ^ (octets[start + i] & 255)) * 1099511628211L;
            }
            return sum;
        }
    }

    /** All pages, whether the sum of each is right, and the writes that may be cut. */
    private static final class Pages {
        final int count;
        final byte[] octets;
        // Kept with each change, so that reading a page needs no sum.
        final boolean[] right;
        int reads = 0;
        int writes = 0;
        int cutIn = 0;
        int cutBehind = 0;

        Pages(int count) {
            this.count = count;
            this.octets = new byte[count * PAGE];
            this.right = new boolean[count];
            // The sum of 0s from 0 on is 0; from every other page's number it is not.
            this.right[0] = true;
        }

        boolean has(int page) {
            return page >= 0 && page < count;
        }

        int peek(int page, int i) {
            return has(page) && i >= 0 && i < PAGE ? octets[page * PAGE + i] & 255 : 0;
        }

        int two(int page, int i) {
            return peek(page, i) << 8 | peek(page, i + 1);
        }

        long four(int page, int i) {
            return (long) two(page, i) << 16 | two(page, i + 2);
        }

        boolean isRight(int page) {
            return has(page) && right[page];
        }

        boolean readsRight(int page) {
            reads++;
            return isRight(page);
        }

        boolean bodyIs(int page, Sheet sheet) {
            for (int i = 0; i < BODY; i++) {
                if (peek(page, i) != (sheet.octets[i] & 255)) {
                    return false;
                }
            }
            return true;
        }

        /** False: the write was cut. */
        boolean store(int page, Sheet sheet) {
            sheet.seal(page);
            writes++;
            boolean whole = cutIn != 1;
            cutIn = Math.max(0, cutIn - 1);
            lay(page, sheet, whole ? PAGE : cutBehind);
            checkSum(page);
            return whole;
        }

        void lay(int page, Sheet sheet, int length) {
            for (int i = 0; i < length && i < PAGE && has(page); i++) {
                octets[page * PAGE + i] = sheet.octets[i];
            }
        }

        void turn(int page, int i, int mask) {
            if (has(page) && i >= 0 && i < PAGE) {
                octets[page * PAGE + i] ^= (byte) mask;
                checkSum(page);
            }
        }

        void checkSum(int page) {
            if (!has(page)) {
                return;
            }
            long sum = Sheet.sumOf(octets, page * PAGE, page);
            boolean same = true;
            for (int i = 0; i < PAGE - BODY; i++) {
                same &= octets[page * PAGE + BODY + i] == (byte) (sum >>> 56 - 8 * i);
            }
            right[page] = same;
        }
    }

    /** Entries by rising keys, one at a time. */
    private abstract static class Stream {
        boolean there = false;
        long key = 0;
        int kind = NOTHING;
        long value = 0;

        /** Goes to the next entry; there tells whether it exists. */
        abstract void step();
    }

    private static final class TableStream extends Stream {
        private final Table table;
        private int place = 0;

        TableStream(Table table) {
            this.table = table;
        }

        void start() {
            place = 0;
        }

        void step() {
            there = place < table.size && place < TABLE_MOST;
            if (there) {
                key = table.keys[place];
                kind = table.kinds[place];
                value = table.values[place];
                place++;
            }
        }
    }

    /** The entries of a run or of one page, whose sums are known to be right. */
    private static final class RunStream extends Stream {
        private final Pages pages;
        private final Space space;
        int comingPage = 0;
        private int pagesLeft = 0;
        private int entriesLeft = 0;
        private int place = 0;
        private int placeEnd = 0;

        RunStream(Pages pages, Space space) {
            this.pages = pages;
            this.space = space;
        }

        /** Begins with the page in which the key would be. */
        void start(Run run, long least) {
            comingPage = run.firstPage;
            pagesLeft = run.pageCount;
            entriesLeft = 0;
            while (pagesLeft > 1 && !space.beginsAbove(space.after(comingPage), least)) {
                comingPage = space.after(comingPage);
                pagesLeft--;
            }
        }

        void startPage(int only) {
            comingPage = only;
            pagesLeft = 1;
            entriesLeft = 0;
        }

        void step() {
            if (entriesLeft == 0 && pagesLeft > 0) {
                int page = comingPage;
                pagesLeft--;
                comingPage = space.after(page);
                entriesLeft = pages.peek(page, COUNT_AT);
                place = page * PAGE + ENTRIES_AT;
                placeEnd = page * PAGE + BODY;
            }
            there = entriesLeft > 0;
            if (there) {
                entriesLeft--;
                readKey();
                kind = nextOctet();
                value = kind == END ? 0 : readValue();
            }
        }

        private void readKey() {
            long turned = key ^ LEAST_KEY;
            for (int i = nextOctet(); i < 8; i++) {
                int shift = 56 - 8 * i;
                turned = turned & ~(255L << shift) | (long) nextOctet() << shift;
            }
            key = turned ^ LEAST_KEY;
        }

        private long readValue() {
            long z = 0;
            boolean more = true;
            for (int i = 0; i < 10 && more; i++) {
                int octet = nextOctet();
                z |= (long) (octet & 127) << 7 * i;
                more = octet > 127;
            }
            return z >>> 1 ^ -(z & 1);
        }

        private int nextOctet() {
            boolean inside = place >= 0 && place < placeEnd && place < pages.octets.length;
            int octet = inside ? pages.octets[place] & 255 : 0;
            place++;
            return octet;
        }
    }

    /** The entries of several streams, newest first, as one stream of what they come to. */
    private static final class Blend {
        final Fate fate = new Fate();
        long key = 0;
        private final TableStream ofTable;
        private final RunStream[] ofRuns = new RunStream[RUNS_MOST];
        private final Stream[] inputs = new Stream[RUNS_MOST + 1];
        private int inputCount = 0;
        private int runCount = 0;
        private boolean oldest = false;

        Blend(Table table, Pages pages, Space space) {
            ofTable = new TableStream(table);
            for (int i = 0; i < RUNS_MOST; i++) {
                ofRuns[i] = new RunStream(pages, space);
            }
            for (int i = 0; i < RUNS_MOST + 1; i++) {
                inputs[i] = ofTable;
            }
        }

        /** With nothing older behind it, an END has nothing to hide and an ADD nothing to add to. */
        void begin(boolean nothingOlder) {
            oldest = nothingOlder;
            inputCount = 0;
            runCount = 0;
        }

        void addTable() {
            ofTable.start();
            ofTable.step();
            addInput(ofTable);
        }

        /** From the page on in which the key would be. */
        void addRun(Run run, long key) {
            if (runCount < RUNS_MOST) {
                RunStream stream = ofRuns[runCount];
                runCount++;
                stream.start(run, key);
                stream.step();
                addInput(stream);
            }
        }

        private void addInput(Stream stream) {
            if (inputCount < RUNS_MOST + 1) {
                inputs[inputCount] = stream;
                inputCount++;
            }
        }

        /** Goes to the next key; false when there is none. */
        boolean advance() {
            for (int i = 0; i < STEPS_MOST && findLeast(); i++) {
                fate.begin(NOTHING, 0);
                for (int s = 0; s < inputCount; s++) {
                    Stream stream = inputs[s];
                    if (stream.there && stream.key == key) {
                        fate.layUpon(stream.kind, stream.value);
                        stream.step();
                    }
                }
                if (!oldest) {
                    return true;
                }
                if (fate.kind != END) {
                    fate.kind = PUT;
                    return true;
                }
            }
            return false;
        }

        private boolean findLeast() {
            boolean any = false;
            for (int s = 0; s < inputCount; s++) {
                Stream stream = inputs[s];
                if (stream.there && (!any || stream.key < key)) {
                    key = stream.key;
                    any = true;
                }
            }
            return any;
        }
    }
}
