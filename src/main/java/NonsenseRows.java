/**
 * One head that learns rows of nonsense and forgets them again, by laws that a text tells.
 * The promises are numbered in the document; README.md says how to use the class.
 */
public final class NonsenseRows {
    public static final int NONE = -1;

    private static final int NOTHING = -2000000000;
    private static final int NO_SUCH = -2;
    private static final int FULL = -3;
    private static final int BELOW_ZERO = -3;
    private static final int FAULTY = -4;
    private static final int NOT_TO_FIT = -5;
    private static final int EMPTY = -6;
    private static final int BEYOND = -7;
    private static final int UNLIKE_WIDTHS = -8;

    private static final int NEXT = 0;
    private static final int BACK = 1;
    private static final int OFF = 2;
    private static final int PLACE = 3;
    private static final int SORTS = 4;

    private static final int GROW = 0;
    private static final int FALL = 1;
    private static final int MIX = 2;
    private static final int LAWS = 3;

    private static final int MOST_THINGS = 24;
    private static final int MOST_ROWS = 12;
    private static final int ROW_SIZE = 12;
    private static final int MOST_STRENGTH = 1000;
    private static final int MOST_SITTINGS = 60;
    private static final int MOST_READINGS = 50;
    private static final int MOST_TO_LEARN = 40;
    private static final int COUNTED_FOR_NONE = 41;
    private static final int MOST_WAIT = 200;
    private static final int MOST_GONE = 60;
    private static final int DAY = 24;
    private static final int MOST_DAYS = 4;
    private static final int MOST_SPREAD = 8;
    private static final int FIT_HOURS = 400;
    private static final int FIT_APART = 30;
    private static final int TAPE_SIZE = 900;
    private static final int FEED_SIZE = 20;
    private static final int SLOTS = 4;
    private static final int SLOT_SIZE = 60;
    private static final int IMAGES = 3;

    private final byte[] tape = new byte[TAPE_SIZE];
    private int tapeLength;
    private int latestFault;
    private int latestPlace = NONE;
    private final State now = new State();
    private final State[] images = new State[IMAGES];
    private final Slot[] slots = new Slot[SLOTS];
    // Made at their first use and kept, so that an object of which little is asked stays small.
    private Parser parser;
    private Desk desk;

    public NonsenseRows() {
    }

    public int feed(int a, int b, int c, int d, int e) {
        if (tapeLength + FEED_SIZE > TAPE_SIZE) {
            return NONE;
        }
        feedFour(a);
        feedFour(b);
        feedFour(c);
        feedFour(d);
        feedFour(e);
        return tapeLength;
    }

    private void feedFour(int number) {
        for (int shift = 24; shift >= 0; shift -= 8) {
            if (tapeLength < TAPE_SIZE) {
                tape[tapeLength] = (byte) (number >> shift);
                tapeLength++;
            }
        }
    }

    public int end(int n) {
        if (n < 0 || n > tapeLength) {
            return NONE;
        }
        tapeLength = n;
        return n;
    }

    public int text() {
        if (parser == null) {
            parser = new Parser();
        }
        boolean whole = parser.takes(tape, tapeLength);
        // A TAPE that was looked at is used up, with a FAULT too: what stays then is TEXT, HEAD and BOOK.
        tapeLength = 0;
        latestFault = parser.fault;
        latestPlace = parser.faultPlace;
        if (!whole) {
            return FAULTY;
        }
        now.mind.text.copyFrom(parser.text);
        now.mind.rows.copyFrom(parser.rows);
        now.mind.head.clear();
        now.book.clear();
        return now.mind.rows.count;
    }

    public int fault(int what) {
        if (what == 0) {
            return latestFault;
        }
        return what == 1 ? latestPlace : NONE;
    }

    public int read(int row, int n) {
        if (!now.mind.rows.has(row) || n < 1 || n > MOST_READINGS) {
            return NO_SUCH;
        }
        now.sitToRead(row, n);
        return now.book.count;
    }

    public int learn(int row) {
        if (!now.mind.rows.has(row)) {
            return NO_SUCH;
        }
        return now.sitToLearn(row);
    }

    public int waits(int hours) {
        if (!isWait(hours)) {
            return NO_SUCH;
        }
        now.mind.passHours(hours);
        return now.mind.head.hour;
    }

    private static boolean isWait(long hours) {
        return hours >= 0 && hours <= MOST_WAIT;
    }

    private static boolean isSort(int sort) {
        return sort >= 0 && sort < SORTS;
    }

    public int strength(int sort, int a, int b) {
        int ends = sort == PLACE ? ROW_SIZE : now.mind.text.things;
        if (!isSort(sort) || !now.mind.text.hasThing(a) || b < 0 || b >= ends) {
            return NO_SUCH;
        }
        return now.mind.head.strengthAt(Head.cellOf(sort, a, b));
    }

    public int links(int sort) {
        return isSort(sort) ? now.mind.head.linksOf(sort) : NO_SUCH;
    }

    public int support(int row, int i) {
        if (!now.mind.rows.hasPlace(row, i)) {
            return NO_SUCH;
        }
        return now.mind.supportOf(row, i);
    }

    public int slips(int row) {
        return now.mind.rows.has(row) ? now.mind.slipBits(row) : NO_SUCH;
    }

    public int needs(int row) {
        return now.mind.rows.has(row) ? desk().needsOf(now.mind, row) : NO_SUCH;
    }

    private Desk desk() {
        if (desk == null) {
            desk = new Desk(now.mind);
        }
        return desk;
    }

    public int fresh(int row) {
        return now.mind.rows.has(row) ? desk().freshOf(now.mind, row) : NO_SUCH;
    }

    public int saving(int row) {
        if (!now.mind.rows.has(row)) {
            return NOTHING;
        }
        int needed = desk().needsOf(now.mind, row);
        int first = desk().freshOf(now.mind, row);
        if (needed == NONE || first == NONE || first == 0) {
            return NOTHING;
        }
        return (first - needed) * 1000 / first;
    }

    public int after(int row, int hours) {
        if (!now.mind.rows.has(row) || !isWait(hours)) {
            return NO_SUCH;
        }
        Mind walker = desk().walkerFrom(now.mind);
        walker.passHours(hours);
        return desk().needsOf(walker, row);
    }

    public int lasts(int row) {
        if (!now.mind.rows.has(row)) {
            return NO_SUCH;
        }
        Mind walker = desk().walkerFrom(now.mind);
        for (int hours = 0; hours <= MOST_WAIT; hours++) {
            if (walker.slipBits(row) != 0) {
                return hours;
            }
            walker.passHours(1);
        }
        return NONE;
    }

    public int gone(int row) {
        if (!now.mind.rows.has(row)) {
            return NO_SUCH;
        }
        Mind walker = desk().walkerFrom(now.mind);
        for (int hours = 0; hours <= MOST_GONE; hours++) {
            int needed = counted(desk().needsOf(walker, row));
            if (needed >= counted(desk().freshOf(walker, row))) {
                return hours;
            }
            walker.passHours(1);
        }
        return NONE;
    }

    private static int counted(int readings) {
        return readings == NONE ? COUNTED_FOR_NONE : readings;
    }

    public int without(int row, int sort) {
        if (!now.mind.rows.has(row) || !isSort(sort)) {
            return NO_SUCH;
        }
        return desk().needsWithout(now.mind, row, sort);
    }

    public int between(int row, int other, int hours) {
        Rows rows = now.mind.rows;
        if (!rows.has(row) || !rows.has(other) || row == other || hours < 1 || !isWait(hours)) {
            return NOTHING;
        }
        Mind walker = desk().walkerFrom(now.mind);
        if (walker.learnRow(other) == NONE) {
            return NOTHING;
        }
        walker.passHours(hours);
        int disturbed = desk().needsOf(walker, row);
        walker = desk().walkerFrom(now.mind);
        walker.passHours(hours);
        return lessened(disturbed, desk().needsOf(walker, row));
    }

    private static int lessened(int readings, int others) {
        return readings == NONE || others == NONE ? NOTHING : readings - others;
    }

    public int evening(int row, int later, int hours) {
        if (!now.mind.rows.has(row) || later < 0 || later >= DAY || !isWait(hours)) {
            return NOTHING;
        }
        Mind walker = desk().walkerFrom(now.mind);
        if (walker.learnRow(row) == NONE) {
            return NOTHING;
        }
        walker.passHours(later + hours);
        int learntNow = desk().needsOf(walker, row);
        walker = desk().walkerFrom(now.mind);
        walker.passHours(later);
        if (walker.learnRow(row) == NONE) {
            return NOTHING;
        }
        walker.passHours(hours);
        return lessened(learntNow, desk().needsOf(walker, row));
    }

    public int when(int row) {
        if (!now.mind.rows.has(row)) {
            return NO_SUCH;
        }
        Mind walker = desk().walkerFrom(now.mind);
        int best = NONE;
        int fewest = COUNTED_FOR_NONE;
        for (int hours = 0; hours < DAY; hours++) {
            int needed = counted(desk().needsOf(walker, row));
            if (needed < fewest) {
                fewest = needed;
                best = hours;
            }
            walker.passHours(1);
        }
        return best;
    }

    public int must(int row) {
        if (!now.mind.rows.has(row)) {
            return NO_SUCH;
        }
        int best = NEXT;
        int most = 0;
        for (int sort = 0; sort < SORTS; sort++) {
            int needed = counted(desk().needsWithout(now.mind, row, sort));
            if (needed > most) {
                most = needed;
                best = sort;
            }
        }
        return best;
    }

    public int verse(int row, int other) {
        if (!now.mind.rows.has(row) || !now.mind.rows.has(other)) {
            return NOTHING;
        }
        int first = desk().freshOf(now.mind, row);
        int second = desk().freshOf(now.mind, other);
        if (first == NONE || second == NONE || second == 0) {
            return NOTHING;
        }
        return first * 1000 / second;
    }

    public int near(int row, int other, int off, boolean turned) {
        Rows rows = now.mind.rows;
        if (!rows.has(row) || !rows.has(other) || off < 1 || off >= ROW_SIZE) {
            return NO_SUCH;
        }
        int pairs = 0;
        for (int i = 1; i < rows.sizes[row]; i++) {
            int first = rows.placeOf(other, rows.thingAt(row, i - 1));
            int second = rows.placeOf(other, rows.thingAt(row, i));
            if (first != NONE && second != NONE && (turned ? first - second : second - first) == off) {
                pairs++;
            }
        }
        return pairs;
    }

    public int fit(int law, int sort, int low, int high, int what) {
        boolean numbers = low >= 0 && low <= high && high <= MOST_STRENGTH && high - low <= FIT_APART;
        if (!numbers || (law != GROW && law != FALL) || !isSort(sort) || what < 0 || what > 2) {
            return NO_SUCH;
        }
        if (now.mind.head.hour > FIT_HOURS || now.book.lost || now.mind.rows.grown()) {
            return NOT_TO_FIT;
        }
        int many = 0;
        int least = NONE;
        int greatest = NONE;
        for (int number = low; number <= high; number++) {
            if (desk().comesToBook(now, lawOf(law, sort), number)) {
                many++;
                least = least == NONE ? number : least;
                greatest = number;
            }
        }
        if (what == 0) {
            return many;
        }
        return what == 1 ? least : greatest;
    }

    private static int lawOf(int what, int sort) {
        return what * SORTS + sort;
    }

    public int days(int slot) {
        if (!isSlot(slot)) {
            return NO_SUCH;
        }
        Slot found = slots[slot];
        if (found == null) {
            return EMPTY;
        }
        int sittings = 0;
        for (int i = 0; i + 2 < found.length; i += 3) {
            long hours = found.numbers[i];
            long row = found.numbers[i + 1];
            long readings = found.numbers[i + 2];
            if (canSit(hours, row, readings)) {
                now.mind.passHours((int) hours);
                if (readings == 0) {
                    now.sitToLearn((int) row);
                } else {
                    now.sitToRead((int) row, (int) readings);
                }
                sittings++;
            }
        }
        return sittings;
    }

    private boolean canSit(long hours, long row, long readings) {
        boolean known = row >= 0 && row < now.mind.rows.count;
        return isWait(hours) && known && readings >= 0 && readings <= MOST_READINGS;
    }

    public int spread(int row, int n, int days) {
        if (!canSpread(row, n, days)) {
            return NONE;
        }
        desk().searchPlans(now.mind, row, n, days);
        return desk().bestPlan;
    }

    private boolean canSpread(int row, int n, int days) {
        return now.mind.rows.has(row) && n >= 1 && n <= MOST_SPREAD && days >= 1 && days <= MOST_DAYS;
    }

    public int left(int row, int n, int days, int what) {
        if (!canSpread(row, n, days) || what < 0 || what > 2) {
            return NONE;
        }
        if (what == 0) {
            desk().searchPlans(now.mind, row, n, days);
            return desk().mostLeft;
        }
        return leftByOneDay(row, n, days, what == 1 ? 0 : days - 1);
    }

    private int leftByOneDay(int row, int n, int days, int day) {
        Mind walker = desk().walkerFrom(now.mind);
        walker.passHours(day * DAY);
        walker.readTimes(row, n);
        walker.passHours((days - day) * DAY);
        return walker.supportOfAll(row);
    }

    public int shuffled(int row, int k) {
        Rows rows = now.mind.rows;
        if (!rows.has(row) || k < 1 || k > 3) {
            return NO_SUCH;
        }
        if (rows.isFull()) {
            return FULL;
        }
        rows.begin();
        for (int start = 0; start <= k; start++) {
            for (int i = start; i < rows.sizes[row]; i += k + 1) {
                rows.add(rows.thingAt(row, i));
            }
        }
        return rows.close();
    }

    public int backward(int row) {
        Rows rows = now.mind.rows;
        if (!rows.has(row)) {
            return NO_SUCH;
        }
        if (rows.isFull()) {
            return FULL;
        }
        rows.begin();
        for (int i = rows.sizes[row] - 1; i >= 0; i--) {
            rows.add(rows.thingAt(row, i));
        }
        return rows.close();
    }

    public int rowOf(int slot) {
        if (!isSlot(slot)) {
            return NO_SUCH;
        }
        Slot found = slots[slot];
        if (found == null) {
            return EMPTY;
        }
        if (!canBeRow(found)) {
            return NO_SUCH;
        }
        Rows rows = now.mind.rows;
        if (rows.isFull()) {
            return FULL;
        }
        rows.begin();
        for (int i = 0; i < found.length; i++) {
            rows.add((int) found.numbers[i]);
        }
        return rows.close();
    }

    private boolean canBeRow(Slot found) {
        if (found.length < 2 || found.length > ROW_SIZE) {
            return false;
        }
        int seen = 0;
        for (int i = 0; i < found.length; i++) {
            long number = found.numbers[i];
            if (number < 0 || number >= now.mind.text.things) {
                return false;
            }
            int bit = 1 << (int) number;
            if ((seen & bit) != 0) {
                return false;
            }
            seen |= bit;
        }
        return true;
    }

    public int thing(int row, int i) {
        if (!now.mind.rows.has(row)) {
            return NO_SUCH;
        }
        return now.mind.rows.hasPlace(row, i) ? now.mind.rows.thingAt(row, i) : NONE;
    }

    public int used(int row) {
        return now.mind.rows.has(row) ? now.mind.rows.used[row] : NO_SUCH;
    }

    public int sitting(int i, int what) {
        if (i < 0 || i >= now.book.count || what < 0 || what > Book.SLIPS_BEHIND) {
            return NONE;
        }
        return now.book.entry(i, what);
    }

    public int book(int row, int what) {
        Book book = now.book;
        int many = 0;
        int first = NONE;
        int last = NONE;
        for (int i = 0; i < book.count; i++) {
            if (book.entry(i, Book.ROW) == row) {
                many++;
                first = first == NONE ? i : first;
                last = i;
            }
        }
        if (many < 2) {
            return NONE;
        }
        switch (what) {
            case 0:
                return many;
            case 1:
                return book.entry(first, Book.READINGS);
            case 2:
                return book.entry(last, Book.READINGS);
            case 3:
                return book.entry(last, Book.HOUR) - book.entry(first, Book.HOUR);
            default:
                return NONE;
        }
    }

    public int parts(int k) {
        if (!isImage(k)) {
            return NO_SUCH;
        }
        State image = images[k];
        if (image == null) {
            return EMPTY;
        }
        int best = NONE;
        int most = NONE;
        int rows = Math.min(now.mind.rows.count, image.mind.rows.count);
        for (int row = 0; row < rows; row++) {
            if (now.mind.rows.sizes[row] == image.mind.rows.sizes[row]) {
                int here = counted(desk().needsOf(now.mind, row));
                int unlike = Math.abs(here - counted(desk().needsOf(image.mind, row)));
                if (unlike > most) {
                    most = unlike;
                    best = row;
                }
            }
        }
        return best;
    }

    private static boolean isImage(int k) {
        return k >= 0 && k < IMAGES;
    }

    public int forget() {
        int many = 0;
        for (int sort = 0; sort < SORTS; sort++) {
            many += now.mind.head.linksOf(sort);
        }
        now.mind.head.clear();
        now.book.clear();
        return many;
    }

    public long law(int what, int sort, int strength, int thing) {
        boolean such = what >= 0 && what < LAWS && isSort(sort) && now.mind.text.hasThing(thing);
        if (!such || strength < 0 || strength > MOST_STRENGTH) {
            return NOTHING;
        }
        return now.mind.text.sumOf(lawOf(what, sort), strength, thing, now.mind.head.tired, now.mind.head.hour);
    }

    public int count(int what) {
        switch (what) {
            case 0:
                return now.mind.text.things;
            case 1:
                return now.mind.rows.count;
            case 2:
                return now.mind.text.lines;
            case 3:
                return tapeLength;
            case 4:
                return now.mind.head.hour;
            case 5:
                return now.mind.head.tired;
            case 6:
                return now.book.count;
            case 7:
                return now.mind.text.hold;
            case 8:
            case 9:
            case 10:
            case 11:
                return now.mind.text.leans[what - 8];
            case 12:
                return filledSlots();
            default:
                return NONE;
        }
    }

    private int filledSlots() {
        int many = 0;
        for (int slot = 0; slot < SLOTS; slot++) {
            if (slots[slot] != null) {
                many++;
            }
        }
        return many;
    }

    public int keep(int k) {
        if (!isImage(k)) {
            return NO_SUCH;
        }
        if (images[k] == null) {
            images[k] = new State();
        }
        images[k].copyFrom(now);
        return 0;
    }

    public int back(int k) {
        if (!isImage(k)) {
            return NO_SUCH;
        }
        if (images[k] == null) {
            return EMPTY;
        }
        now.copyFrom(images[k]);
        return 0;
    }

    private static boolean isSlot(int slot) {
        return slot >= 0 && slot < SLOTS;
    }

    public int row(int slot, int width, int n) {
        if (!isSlot(slot) || width < 0 || width > 3 || n > SLOT_SIZE) {
            return NO_SUCH;
        }
        if (n < 0) {
            return BELOW_ZERO;
        }
        if (slots[slot] == null) {
            slots[slot] = new Slot();
        }
        slots[slot].begin(width, n);
        return 0;
    }

    public int write(int slot, int i, long v) {
        if (!isSlot(slot)) {
            return NO_SUCH;
        }
        Slot found = slots[slot];
        if (found == null) {
            return EMPTY;
        }
        if (i < 0 || i >= found.length) {
            return BEYOND;
        }
        found.numbers[i] = found.cut(v);
        return 0;
    }

    public int paste(int slot, int i, int to, int k, int n) {
        if (!isSlot(slot) || !isSlot(to)) {
            return NO_SUCH;
        }
        Slot from = slots[slot];
        Slot into = slots[to];
        if (from == null || into == null) {
            return EMPTY;
        }
        if (from.width != into.width) {
            return UNLIKE_WIDTHS;
        }
        if (!from.reaches(i, n) || !into.reaches(k, n)) {
            return BEYOND;
        }
        System.arraycopy(from.numbers, i, into.numbers, k, n);
        return 0;
    }

    /** What a TEXT tells beside its ROWS. */
    private static final class Text {
        static final int HAS = -1;
        static final int LEFT = -2;
        static final int EASY = -3;
        static final int TIRED = -4;
        static final int HOUR = -5;
        static final int QUANTITIES = 5;
        static final int PLUS = 0;
        static final int MINUS = 1;
        static final int TIMES = 2;
        static final int OVER = 3;
        static final int JOINTS = 4;
        private static final int ALL_LAWS = LAWS * SORTS;
        // A PART with the word that joins it takes five bytes of the TAPE or more.
        private static final int MOST_PARTS = TAPE_SIZE / 5;
        private static final long FARTHEST = 1000000000L;

        int things;
        int lines;
        int hold;
        final int[] easy = new int[MOST_THINGS];
        final int[] leans = new int[SORTS];
        // The SUMS of all LAWS stand one behind the other; a LAW without PARTS is not told.
        private final int[] lawStart = new int[ALL_LAWS];
        private final int[] lawEnd = new int[ALL_LAWS];
        private final int[] joints = new int[MOST_PARTS];
        private final int[] parts = new int[MOST_PARTS];
        private int partCount;

        void clear() {
            things = 0;
            lines = 0;
            hold = 0;
            partCount = 0;
            for (int sort = 0; sort < SORTS; sort++) {
                leans[sort] = 0;
            }
            for (int law = 0; law < ALL_LAWS; law++) {
                lawStart[law] = 0;
                lawEnd[law] = 0;
            }
        }

        void copyFrom(Text other) {
            things = other.things;
            lines = other.lines;
            hold = other.hold;
            partCount = other.partCount;
            System.arraycopy(other.easy, 0, easy, 0, MOST_THINGS);
            System.arraycopy(other.leans, 0, leans, 0, SORTS);
            System.arraycopy(other.lawStart, 0, lawStart, 0, ALL_LAWS);
            System.arraycopy(other.lawEnd, 0, lawEnd, 0, ALL_LAWS);
            System.arraycopy(other.joints, 0, joints, 0, partCount);
            System.arraycopy(other.parts, 0, parts, 0, partCount);
        }

        boolean hasThing(int thing) {
            return thing >= 0 && thing < things;
        }

        boolean hasLaw(int law) {
            return lawEnd[law] > lawStart[law];
        }

        void addThing(int easiness) {
            if (things < MOST_THINGS) {
                easy[things] = easiness;
                things++;
            }
        }

        void beginLaw(int law) {
            lawStart[law] = partCount;
            lawEnd[law] = partCount;
        }

        void addPart(int law, int joint, int part) {
            if (partCount < MOST_PARTS) {
                joints[partCount] = joint;
                parts[partCount] = part;
                partCount++;
                lawEnd[law] = partCount;
            }
        }

        long sumOf(int law, int has, int thing, int tired, int hour) {
            long sum = 0;
            long term = 0;
            boolean minus = false;
            for (int i = lawStart[law]; i < lawEnd[law]; i++) {
                long value = parts[i];
                switch (parts[i]) {
                    case HAS:
                        value = has;
                        break;
                    case LEFT:
                        value = MOST_STRENGTH - has;
                        break;
                    case EASY:
                        value = easy[thing];
                        break;
                    case TIRED:
                        value = tired;
                        break;
                    case HOUR:
                        value = hour % DAY;
                        break;
                    default:
                        break;
                }
                if (joints[i] == OVER && value == 0) {
                    return 0;
                }
                if (joints[i] == TIMES) {
                    term *= value;
                } else if (joints[i] == OVER) {
                    term /= value;
                } else {
                    sum = minus ? sum - term : sum + term;
                    minus = joints[i] == MINUS;
                    term = value;
                }
                // No PART is below 0, so no TERM is.
                if (term > FARTHEST || sum > FARTHEST || sum < -FARTHEST) {
                    return 0;
                }
            }
            sum = minus ? sum - term : sum + term;
            return sum > FARTHEST || sum < -FARTHEST ? 0 : sum;
        }
    }

    /** The ROWS, those of the TEXT first, and how often each was READ. */
    private static final class Rows {
        int count;
        int toldCount;
        final int[] sizes = new int[MOST_ROWS];
        final int[] used = new int[MOST_ROWS];
        private final int[] things = new int[MOST_ROWS * ROW_SIZE];

        void clear() {
            count = 0;
            toldCount = 0;
        }

        void copyFrom(Rows other) {
            count = other.count;
            toldCount = other.toldCount;
            System.arraycopy(other.sizes, 0, sizes, 0, MOST_ROWS);
            System.arraycopy(other.used, 0, used, 0, MOST_ROWS);
            System.arraycopy(other.things, 0, things, 0, MOST_ROWS * ROW_SIZE);
        }

        boolean has(int row) {
            return row >= 0 && row < count;
        }

        boolean hasPlace(int row, int i) {
            return has(row) && i >= 0 && i < sizes[row];
        }

        boolean isFull() {
            return count >= MOST_ROWS;
        }

        boolean grown() {
            return count != toldCount;
        }

        int thingAt(int row, int i) {
            return things[row * ROW_SIZE + i];
        }

        int placeOf(int row, int thing) {
            for (int i = 0; i < sizes[row]; i++) {
                if (thingAt(row, i) == thing) {
                    return i;
                }
            }
            return NONE;
        }

        // A ROW in the making stands behind the last one and counts from close() on.
        void begin() {
            if (!isFull()) {
                sizes[count] = 0;
                used[count] = 0;
            }
        }

        boolean add(int thing) {
            if (isFull() || sizes[count] >= ROW_SIZE) {
                return false;
            }
            things[count * ROW_SIZE + sizes[count]] = thing;
            sizes[count]++;
            return true;
        }

        int close() {
            if (isFull()) {
                return NONE;
            }
            count++;
            return count - 1;
        }
    }

    /** The LINKS with their STRENGTHS, the hour, and the READINGS since an hour went by. */
    private static final class Head {
        private static final int SORT_CELLS = MOST_THINGS * MOST_THINGS;
        private static final int PLACE_CELLS = PLACE * SORT_CELLS;
        private static final int CELLS = PLACE_CELLS + MOST_THINGS * ROW_SIZE;
        // Twelve ROWS of twelve THINGS: 12 places, 11 next, 11 back and 10 off of each.
        private static final int MOST_LISTED = MOST_ROWS * (4 * ROW_SIZE - 4);

        int hour;
        int tired;
        // 0: not in the list; else STRENGTH and one. LINKS are few among all that could be:
        // hours and copies go through the list alone.
        private final int[] cells = new int[CELLS];
        private final int[] list = new int[MOST_LISTED];
        private int listed;

        static int cellOf(int sort, int from, int to) {
            return sort == PLACE ? PLACE_CELLS + from * ROW_SIZE + to : sort * SORT_CELLS + from * MOST_THINGS + to;
        }

        static int sortOf(int cell) {
            return cell / SORT_CELLS;
        }

        /** The THING by whose easy the LINK's LAWS go. */
        static int thingOf(int cell) {
            return cell >= PLACE_CELLS ? (cell - PLACE_CELLS) / ROW_SIZE : cell % MOST_THINGS;
        }

        int strengthAt(int cell) {
            return cells[cell] > 0 ? cells[cell] - 1 : 0;
        }

        void put(int cell, int strength) {
            if (cells[cell] == 0) {
                if (strength == 0 || listed >= MOST_LISTED) {
                    return;
                }
                list[listed] = cell;
                listed++;
            }
            cells[cell] = strength + 1;
        }

        int listedCount() {
            return listed;
        }

        int listedCell(int i) {
            return list[i];
        }

        int linksOf(int sort) {
            int many = 0;
            for (int i = 0; i < listed; i++) {
                if (sortOf(list[i]) == sort && strengthAt(list[i]) > 0) {
                    many++;
                }
            }
            return many;
        }

        void dropEmpty() {
            int kept = 0;
            for (int i = 0; i < listed; i++) {
                int cell = list[i];
                if (strengthAt(cell) > 0) {
                    list[kept] = cell;
                    kept++;
                } else {
                    cells[cell] = 0;
                }
            }
            listed = kept;
        }

        void clear() {
            for (int i = 0; i < listed; i++) {
                cells[list[i]] = 0;
            }
            listed = 0;
            hour = 0;
            tired = 0;
        }

        void copyFrom(Head other) {
            clear();
            hour = other.hour;
            tired = other.tired;
            for (int i = 0; i < other.listed; i++) {
                put(other.list[i], other.strengthAt(other.list[i]));
            }
        }
    }

    /** A HEAD with the TEXT and the ROWS by which it reads. */
    private static final class Mind {
        Text text;
        Rows rows;
        final Head head = new Head();
        // What is supposed on paper: a sort of LINK that does not count, a LAW that is a number.
        int muteSort = NONE;
        int fixedLaw = NONE;
        int fixedNumber;

        Mind(Text text, Rows rows) {
            this.text = text;
            this.rows = rows;
        }

        /** Goes on from another one's HEAD, by the same TEXT and ROWS, with nothing supposed. */
        void follow(Mind other) {
            followTextOf(other);
            head.copyFrom(other.head);
        }

        void followTextOf(Mind other) {
            text = other.text;
            rows = other.rows;
            muteSort = NONE;
            fixedLaw = NONE;
        }

        private void grow(int sort, int from, int to) {
            change(Head.cellOf(sort, from, to), lawOf(GROW, sort), 1);
        }

        private void change(int cell, int law, int sign) {
            int has = head.strengthAt(cell);
            long by = fixedNumber;
            if (law != fixedLaw) {
                by = text.sumOf(law, has, Head.thingOf(cell), head.tired, head.hour);
            }
            head.put(cell, (int) Math.max(0L, Math.min(has + sign * by, MOST_STRENGTH)));
        }

        private void readOnce(int row) {
            for (int i = 0; i < rows.sizes[row]; i++) {
                int b = rows.thingAt(row, i);
                grow(PLACE, b, i);
                if (i >= 1) {
                    int a = rows.thingAt(row, i - 1);
                    grow(NEXT, a, b);
                    grow(BACK, b, a);
                    if (i >= 2) {
                        grow(OFF, rows.thingAt(row, i - 2), b);
                    }
                    mixBeside(a, b);
                }
            }
            head.tired++;
        }

        private void mixBeside(int a, int b) {
            int law = lawOf(MIX, NEXT);
            if (!text.hasLaw(law)) {
                return;
            }
            for (int c = 0; c < text.things; c++) {
                int cell = Head.cellOf(NEXT, a, c);
                if (c != b && head.strengthAt(cell) > 0) {
                    change(cell, law, -1);
                }
            }
        }

        void readTimes(int row, int n) {
            for (int i = 0; i < n; i++) {
                readOnce(row);
            }
        }

        /** How many READINGS it took; NONE: forty were not enough. */
        int learnRow(int row) {
            int clean = 0;
            for (int readings = 1; readings <= MOST_TO_LEARN; readings++) {
                readOnce(row);
                clean = slipBits(row) == 0 ? clean + 1 : 0;
                if (clean == 2) {
                    return readings;
                }
            }
            return NONE;
        }

        void passHours(int hours) {
            for (int i = 0; i < hours; i++) {
                passHour();
            }
        }

        private void passHour() {
            for (int i = 0; i < head.listedCount(); i++) {
                int cell = head.listedCell(i);
                if (head.strengthAt(cell) > 0) {
                    change(cell, lawOf(FALL, Head.sortOf(cell)), -1);
                }
            }
            head.dropEmpty();
            head.hour++;
            head.tired = 0;
        }

        int supportOf(int row, int i) {
            int b = rows.thingAt(row, i);
            int sum = leaning(PLACE, b, i);
            if (i >= 1) {
                int a = rows.thingAt(row, i - 1);
                sum += leaning(NEXT, a, b) + leaning(BACK, a, b) + leaning(OFF, a, b);
            }
            return sum / 100;
        }

        private int leaning(int sort, int from, int to) {
            return sort == muteSort ? 0 : text.leans[sort] * head.strengthAt(Head.cellOf(sort, from, to));
        }

        int supportOfAll(int row) {
            int sum = 0;
            for (int i = 0; i < rows.sizes[row]; i++) {
                sum += supportOf(row, i);
            }
            return sum;
        }

        int slipBits(int row) {
            int bits = 0;
            for (int i = 0; i < rows.sizes[row]; i++) {
                if (supportOf(row, i) < text.hold) {
                    bits |= 1 << i;
                }
            }
            return bits;
        }
    }

    /** The SITTINGS, the oldest first. */
    private static final class Book {
        static final int ROW = 0;
        static final int READINGS = 1;
        static final int HOUR = 2;
        static final int SLIPS_BEHIND = 4;
        static final int OUTCOME = 5;
        static final int WAS_READ = 0;
        static final int WAS_LEARNT = 1;
        static final int WAS_NOT_LEARNT = 2;
        private static final int WIDE = 6;

        int count;
        boolean lost;
        private final int[] entries = new int[MOST_SITTINGS * WIDE];

        void clear() {
            count = 0;
            lost = false;
        }

        void copyFrom(Book other) {
            count = other.count;
            lost = other.lost;
            System.arraycopy(other.entries, 0, entries, 0, MOST_SITTINGS * WIDE);
        }

        int entry(int i, int what) {
            return entries[i * WIDE + what];
        }

        void add(int row, int readings, int hour, int slipsAhead, int slipsBehind, int outcome) {
            if (count >= MOST_SITTINGS) {
                System.arraycopy(entries, WIDE, entries, 0, (MOST_SITTINGS - 1) * WIDE);
                count = MOST_SITTINGS - 1;
                lost = true;
            }
            int start = count * WIDE;
            entries[start + ROW] = row;
            entries[start + READINGS] = readings;
            entries[start + HOUR] = hour;
            entries[start + SLIPS_BEHIND - 1] = slipsAhead;
            entries[start + SLIPS_BEHIND] = slipsBehind;
            entries[start + OUTCOME] = outcome;
            count++;
        }
    }

    /** All that an IMAGE keeps. */
    private static final class State {
        final Mind mind = new Mind(new Text(), new Rows());
        final Book book = new Book();

        void copyFrom(State other) {
            mind.text.copyFrom(other.mind.text);
            mind.rows.copyFrom(other.mind.rows);
            mind.head.copyFrom(other.mind.head);
            book.copyFrom(other.book);
        }

        void sitToRead(int row, int n) {
            int slipsAhead = mind.slipBits(row);
            mind.readTimes(row, n);
            enter(row, n, slipsAhead, Book.WAS_READ);
        }

        int sitToLearn(int row) {
            int slipsAhead = mind.slipBits(row);
            int took = mind.learnRow(row);
            if (took == NONE) {
                enter(row, MOST_TO_LEARN, slipsAhead, Book.WAS_NOT_LEARNT);
            } else {
                enter(row, took, slipsAhead, Book.WAS_LEARNT);
            }
            return took;
        }

        private void enter(int row, int readings, int slipsAhead, int outcome) {
            mind.rows.used[row] += readings;
            int slipsBehind = Integer.bitCount(mind.slipBits(row));
            book.add(row, readings, mind.head.hour, Integer.bitCount(slipsAhead), slipsBehind, outcome);
        }
    }

    /** Where all goes by that is only asked: minds that follow another one and are used again. */
    private static final class Desk {
        int bestPlan;
        int mostLeft;
        private final Mind trial;
        private final Mind walker;
        private final Mind[] dayMinds = new Mind[MOST_DAYS];

        Desk(Mind mind) {
            trial = new Mind(mind.text, mind.rows);
            walker = new Mind(mind.text, mind.rows);
        }

        Mind walkerFrom(Mind mind) {
            walker.follow(mind);
            return walker;
        }

        int needsOf(Mind mind, int row) {
            trial.follow(mind);
            return trial.learnRow(row);
        }

        int needsWithout(Mind mind, int row, int sort) {
            trial.follow(mind);
            trial.muteSort = sort;
            return trial.learnRow(row);
        }

        int freshOf(Mind mind, int row) {
            trial.followTextOf(mind);
            trial.head.clear();
            trial.head.hour = mind.head.hour;
            return trial.learnRow(row);
        }

        boolean comesToBook(State state, int law, int number) {
            trial.followTextOf(state.mind);
            trial.head.clear();
            trial.fixedLaw = law;
            trial.fixedNumber = number;
            Book book = state.book;
            for (int i = 0; i < book.count; i++) {
                trial.passHours(book.entry(i, Book.HOUR) - trial.head.hour);
                int row = book.entry(i, Book.ROW);
                int readings = book.entry(i, Book.READINGS);
                int outcome = book.entry(i, Book.OUTCOME);
                if (outcome == Book.WAS_READ) {
                    trial.readTimes(row, readings);
                } else if (trial.learnRow(row) != (outcome == Book.WAS_LEARNT ? readings : NONE)) {
                    return false;
                }
            }
            return true;
        }

        void searchPlans(Mind mind, int row, int n, int days) {
            bestPlan = NONE;
            mostLeft = NONE;
            for (int day = 0; day < days && day < MOST_DAYS; day++) {
                if (dayMinds[day] == null) {
                    dayMinds[day] = new Mind(mind.text, mind.rows);
                }
            }
            searchFrom(mind, row, n, days, 0, 0);
        }

        // Plans with more on the first days come first, so that of several the first one stays.
        private void searchFrom(Mind ahead, int row, int rest, int days, int day, int plan) {
            if (day >= days || day >= MOST_DAYS) {
                return;
            }
            boolean last = day == days - 1;
            Mind mind = dayMinds[day];
            for (int readings = rest; readings >= (last ? rest : 0); readings--) {
                mind.follow(ahead);
                mind.readTimes(row, readings);
                mind.passHours(DAY);
                int longer = plan * 10 + readings;
                if (last) {
                    compare(longer, mind.supportOfAll(row));
                } else {
                    searchFrom(mind, row, rest - readings, days, day + 1, longer);
                }
            }
        }

        private void compare(int plan, int left) {
            if (left > mostLeft) {
                mostLeft = left;
                bestPlan = plan;
            }
        }
    }

    /** A SLOT's row of numbers. */
    private static final class Slot {
        int width;
        int length;
        final long[] numbers = new long[SLOT_SIZE];

        void begin(int newWidth, int n) {
            width = newWidth;
            length = n;
            for (int i = 0; i < n; i++) {
                numbers[i] = 0;
            }
        }

        long cut(long v) {
            switch (width) {
                case 0:
                    return (byte) v;
                case 1:
                    return (short) v;
                case 2:
                    return (int) v;
                default:
                    return v;
            }
        }

        boolean reaches(int start, int n) {
            return start >= 0 && n >= 0 && (long) start + n <= length;
        }
    }

    /** The TOKENS of a TAPE with their places; a word is told by its number among WORDS. */
    private static final class Tokens {
        // SORTS, LAWS, joints and quantities each stand in the order of their numbers elsewhere.
        private static final String WORDS =
            "next back off place grow fall mix plus minus times over has left easy tired hour thing row hold lean by ";
        static final int FIRST_LAW = 4;
        static final int FIRST_JOINT = 7;
        static final int FIRST_QUANTITY = 11;
        static final int EASY = 13;
        static final int THING = 16;
        static final int ROW = 17;
        static final int HOLD = 18;
        static final int LEAN = 19;
        static final int BY = 20;
        static final int NUMBER = 21;
        static final int SEMICOLON = 22;
        static final int UNKNOWN = 23;
        static final int END = 24;
        // Beyond every bound of the document, so that long numbers may stop there.
        private static final int HUGE = 1000000;

        final int[] kinds = new int[TAPE_SIZE + 1];
        final int[] places = new int[TAPE_SIZE + 1];
        final int[] numbers = new int[TAPE_SIZE + 1];
        int count;

        void cut(byte[] tape, int n) {
            int length = Math.min(n, tape.length);
            count = 0;
            int at = 0;
            while (at < length) {
                int end = at + 1;
                if (isLetter(tape[at])) {
                    while (end < length && isLetter(tape[end])) {
                        end++;
                    }
                    add(wordAt(tape, at, end), at, 0);
                } else if (isDigit(tape[at])) {
                    int number = tape[at] - '0';
                    while (end < length && isDigit(tape[end])) {
                        number = Math.min(number * 10 + tape[end] - '0', HUGE);
                        end++;
                    }
                    add(NUMBER, at, number);
                } else if (tape[at] != 32 && tape[at] != 10) {
                    add(tape[at] == ';' ? SEMICOLON : UNKNOWN, at, 0);
                }
                at = end;
            }
            add(END, length, 0);
        }

        private void add(int kind, int place, int number) {
            if (count <= TAPE_SIZE) {
                kinds[count] = kind;
                places[count] = place;
                numbers[count] = number;
                count++;
            }
        }

        private static boolean isLetter(int sign) {
            return sign >= 'a' && sign <= 'z';
        }

        private static boolean isDigit(int sign) {
            return sign >= '0' && sign <= '9';
        }

        private static int wordAt(byte[] tape, int start, int end) {
            int word = 0;
            int at = start;
            boolean same = true;
            for (int i = 0; i < WORDS.length(); i++) {
                char sign = WORDS.charAt(i);
                if (sign != ' ') {
                    same = same && at < end && tape[at] == sign;
                    at++;
                } else if (same && at == end) {
                    return word;
                } else {
                    word++;
                    at = start;
                    same = true;
                }
            }
            return UNKNOWN;
        }
    }

    /** Takes a TAPE for a TEXT, TOKEN by TOKEN, up to its first FAULT. */
    private static final class Parser {
        private static final int BAD_TOKEN = 1;
        private static final int OUT_OF_BOUNDS = 2;
        private static final int TOO_MANY = 3;

        final Text text = new Text();
        final Rows rows = new Rows();
        int fault;
        int faultPlace;
        private final Tokens tokens = new Tokens();
        private int current;
        private int kind;
        private int number;
        private boolean holdTold;
        private final boolean[] leanTold = new boolean[SORTS];

        boolean takes(byte[] tape, int length) {
            clear();
            tokens.cut(tape, length);
            look(0);
            for (int i = 0; i <= TAPE_SIZE && kind != Tokens.END; i++) {
                if (!takesLine()) {
                    return false;
                }
                text.lines++;
            }
            rows.toldCount = rows.count;
            return true;
        }

        private void clear() {
            text.clear();
            rows.clear();
            fault = 0;
            faultPlace = NONE;
            holdTold = false;
            for (int sort = 0; sort < SORTS; sort++) {
                leanTold[sort] = false;
            }
        }

        private void look(int token) {
            if (token < tokens.count) {
                current = token;
                kind = tokens.kinds[token];
                number = tokens.numbers[token];
            }
        }

        private void advance() {
            look(current + 1);
        }

        private boolean refuse(int what) {
            fault = what;
            faultPlace = tokens.places[current];
            return false;
        }

        private boolean takesKind(int due) {
            if (kind != due) {
                return refuse(BAD_TOKEN);
            }
            advance();
            return true;
        }

        private boolean isNumberUpTo(int most) {
            if (kind != Tokens.NUMBER) {
                return refuse(BAD_TOKEN);
            }
            return number <= most || refuse(OUT_OF_BOUNDS);
        }

        /** Which of several words that stand one behind the other this TOKEN is; NONE: no one. */
        private int among(int first, int many) {
            return kind >= first && kind < first + many ? kind - first : NONE;
        }

        private boolean takesLine() {
            switch (kind) {
                case Tokens.THING:
                    return takesThing();
                case Tokens.ROW:
                    return takesRow();
                case Tokens.HOLD:
                    return takesHold();
                case Tokens.LEAN:
                    return takesLean();
                default:
                    int what = among(Tokens.FIRST_LAW, LAWS);
                    return what == NONE ? refuse(BAD_TOKEN) : takesLaw(what);
            }
        }

        private boolean takesThing() {
            if (text.things >= MOST_THINGS) {
                return refuse(TOO_MANY);
            }
            advance();
            if (!takesKind(Tokens.EASY) || !isNumberUpTo(9)) {
                return false;
            }
            text.addThing(number);
            advance();
            return takesKind(Tokens.SEMICOLON);
        }

        private boolean takesRow() {
            if (rows.isFull()) {
                return refuse(TOO_MANY);
            }
            advance();
            rows.begin();
            for (int i = 0; i <= ROW_SIZE && kind == Tokens.NUMBER; i++) {
                if (!takesThingOfRow()) {
                    return false;
                }
            }
            if (rows.sizes[rows.count] < 2) {
                return refuse(BAD_TOKEN);
            }
            rows.close();
            return takesKind(Tokens.SEMICOLON);
        }

        private boolean takesThingOfRow() {
            if (!text.hasThing(number) || rows.placeOf(rows.count, number) != NONE) {
                return refuse(OUT_OF_BOUNDS);
            }
            if (!rows.add(number)) {
                return refuse(TOO_MANY);
            }
            advance();
            return true;
        }

        private boolean takesHold() {
            if (holdTold) {
                return refuse(OUT_OF_BOUNDS);
            }
            advance();
            if (!isNumberUpTo(5000)) {
                return false;
            }
            text.hold = number;
            holdTold = true;
            advance();
            return takesKind(Tokens.SEMICOLON);
        }

        private boolean takesLean() {
            advance();
            int sort = among(0, SORTS);
            if (sort == NONE) {
                return refuse(BAD_TOKEN);
            }
            if (leanTold[sort]) {
                return refuse(OUT_OF_BOUNDS);
            }
            advance();
            if (!isNumberUpTo(100)) {
                return false;
            }
            text.leans[sort] = number;
            leanTold[sort] = true;
            advance();
            return takesKind(Tokens.SEMICOLON);
        }

        private boolean takesLaw(int what) {
            advance();
            int sort = among(0, SORTS);
            if (sort == NONE || (what == MIX && sort != NEXT)) {
                return refuse(BAD_TOKEN);
            }
            int law = lawOf(what, sort);
            if (text.hasLaw(law)) {
                return refuse(OUT_OF_BOUNDS);
            }
            advance();
            return takesKind(Tokens.BY) && takesSum(law) && takesKind(Tokens.SEMICOLON);
        }

        private boolean takesSum(int law) {
            text.beginLaw(law);
            int joint = Text.PLUS;
            for (int i = 0; i <= TAPE_SIZE && joint != NONE; i++) {
                if (!takesPart(law, joint)) {
                    return false;
                }
                joint = among(Tokens.FIRST_JOINT, Text.JOINTS);
                if (joint != NONE) {
                    advance();
                }
            }
            return true;
        }

        private boolean takesPart(int law, int joint) {
            int quantity = among(Tokens.FIRST_QUANTITY, Text.QUANTITIES);
            if (quantity == NONE && !isNumberUpTo(1000)) {
                return false;
            }
            text.addPart(law, joint, quantity == NONE ? number : Text.HAS - quantity);
            advance();
            return true;
        }
    }
}
