import java.util.Arrays;

/**
 * Lays sections behind one another, with pools of thunks between them, until
 * every branch that can be helped by a thunk has one that it reaches.
 */
public final class VeneerYard {
    public static final int NONE = -1;
    public static final long NOWHERE = -9223372036854775808L;

    private static final int MAX_SECTIONS = 40;
    private static final int MAX_SECTION_SIZE = 1000000;
    private static final int MAX_SECTION_ALIGN = 12;
    private static final int MAX_LABELS = 60;
    private static final int MAX_KINDS = 8;
    private static final int MIN_BITS = 4;
    private static final int MAX_BITS = 30;
    private static final int MAX_BRANCHES = 200;
    private static final int MAX_THUNK_SIZE = 64;
    private static final int MAX_THUNK_ALIGN = 6;

    // No pool ever gets a second thunk for a label, which bounds the thunks;
    // and every round but the last makes at least one.
    private static final int MAX_THUNKS = MAX_SECTIONS * MAX_LABELS;
    private static final int MAX_ROUNDS = MAX_THUNKS + 1;

    // Most yards need few thunks: their rows start short and grow on demand.
    private static final int FIRST_THUNK_ROWS = 16;

    private static final int DIRECT = 0;
    private static final int BY_THUNK = 1;
    private static final int REFUSED = 2;

    private static final int AT_SECTION = 1000;
    private static final int AT_THUNK = 2000;
    private static final int AT_NOTHING = 0;

    private final Told told = new Told();
    private final Layout laid = new Layout();
    private final Addresses plain = new Addresses();
    private final int[] noThunks = new int[MAX_SECTIONS];
    private boolean toldSinceLay = false;

    public VeneerYard() {
    }

    public int section(int size, int align, boolean pool) {
        return notedNumber(told.sections.append(size, align, pool));
    }

    public int label(int section, int offset) {
        if (!told.sections.has(section)) {
            return NONE;
        }
        if (offset < 0 || offset > told.sections.size[section]) {
            return NONE;
        }
        return notedNumber(told.labels.append(section, offset));
    }

    public boolean kind(int kind, int step, int bits) {
        return noted(told.kinds.tell(kind, step, bits));
    }

    public int branch(int section, int offset, int kind, int label) {
        if (!told.sections.has(section) || !told.kinds.has(kind) || !told.labels.has(label)) {
            return NONE;
        }
        if (offset < 0 || offset >= told.sections.size[section]) {
            return NONE;
        }
        return notedNumber(told.branches.append(section, offset, kind, label));
    }

    public boolean thunks(int size, int align, int kind) {
        return noted(told.tellThunks(size, align, kind));
    }

    public boolean base(int address) {
        if (address < 0) {
            return false;
        }
        told.start = address;
        return noted(true);
    }

    public boolean resize(int s, int size) {
        return noted(told.changeSize(s, size));
    }

    public boolean retarget(int b, int label) {
        if (!told.branches.has(b) || !told.labels.has(label)) {
            return false;
        }
        told.branches.label[b] = label;
        return noted(true);
    }

    public int lay() {
        laid.layOut(told);
        toldSinceLay = false;
        return laid.refused;
    }

    public int count(int what) {
        switch (what) {
            case 0: return laid.rounds;
            case 1: return laid.thunks.made;
            case 2: return laid.direct;
            case 3: return laid.throughThunks;
            case 4: return laid.refused;
            case 5: return laid.thunks.unused();
            case 6: return laid.bytesBetween();
            case 7: return laid.bytesInAll();
            case 10: return told.sections.count;
            case 11: return told.labels.count;
            case 12: return told.branches.count;
            case 13: return told.sections.pools;
            case 14: return toldSinceLay ? 1 : 0;
            default: return NONE;
        }
    }

    public long address(int what, int k) {
        switch (what) {
            case 0: return laid.told.sections.has(k) ? laid.addresses.section[k] : NOWHERE;
            case 1: return laid.told.labels.has(k) ? laid.labelAddress(k) : NOWHERE;
            case 2: return laid.told.branches.has(k) ? laid.branchAddress(k) : NOWHERE;
            case 3: return laid.thunks.has(k) ? laid.thunks.place[k] : NOWHERE;
            case 4: return laid.told.sections.hasPool(k) ? laid.addresses.poolEnd[k] : NOWHERE;
            default: return NOWHERE;
        }
    }

    public int route(int b, int what) {
        if (!laid.told.branches.has(b)) {
            return NONE;
        }
        switch (what) {
            case 0: return laid.way[b];
            case 1: return laid.byThunk[b];
            default: return NONE;
        }
    }

    public int thunk(int k, int what) {
        if (!laid.thunks.has(k)) {
            return NONE;
        }
        switch (what) {
            case 0: return laid.thunks.pool[k];
            case 1: return laid.thunks.label[k];
            case 2: return laid.thunks.round[k];
            case 3: return laid.thunks.wanter[k];
            case 4: return laid.thunks.users[k];
            case 5: return laid.thunks.rank[k];
            default: return NONE;
        }
    }

    public int encoded(int which, int k) {
        switch (which) {
            case 0: return laid.branchCode(k);
            case 1: return laid.thunkCode(k);
            default: return NONE;
        }
    }

    public int at(long address) {
        return laid.whatIsAt(address);
    }

    public long walk(int b) {
        return laid.walkFrom(b);
    }

    public int far() {
        plain.find(told, noThunks);
        int far = 0;
        for (int b = 0; b < told.branches.count; b++) {
            long from = plain.section[told.branches.section[b]] + told.branches.offset[b];
            int label = told.branches.label[b];
            long to = plain.section[told.labels.section[label]] + told.labels.offset[label];
            if (!told.kinds.reaches(told.branches.kind[b], from, to)) {
                far++;
            }
        }
        return far;
    }

    private int notedNumber(int number) {
        noted(number != NONE);
        return number;
    }

    private boolean noted(boolean done) {
        if (done) {
            toldSinceLay = true;
        }
        return done;
    }

    /** The least multiple of align, a power of two, that is not below address. */
    private static long alignUp(long address, long align) {
        return (address + align - 1) & -align;
    }

    private static final class Sections {
        private int count = 0;
        private int pools = 0;
        private final int[] size = new int[MAX_SECTIONS];
        private final int[] align = new int[MAX_SECTIONS];
        private final boolean[] pool = new boolean[MAX_SECTIONS];

        private boolean has(int s) {
            return s >= 0 && s < count;
        }

        private boolean hasPool(int s) {
            return has(s) && pool[s];
        }

        private static boolean isSize(int bytes) {
            return bytes >= 0 && bytes <= MAX_SECTION_SIZE;
        }

        private int append(int bytes, int power, boolean withPool) {
            if (count >= MAX_SECTIONS || !isSize(bytes) || power < 0 || power > MAX_SECTION_ALIGN) {
                return NONE;
            }
            int s = count;
            size[s] = bytes;
            align[s] = 1 << power;
            pool[s] = withPool;
            if (withPool) {
                pools++;
            }
            count++;
            return s;
        }

        private void copyFrom(Sections other) {
            count = other.count;
            pools = other.pools;
            for (int s = 0; s < MAX_SECTIONS; s++) {
                size[s] = other.size[s];
                align[s] = other.align[s];
                pool[s] = other.pool[s];
            }
        }
    }

    private static final class Labels {
        private int count = 0;
        private final int[] section = new int[MAX_LABELS];
        private final int[] offset = new int[MAX_LABELS];

        private boolean has(int l) {
            return l >= 0 && l < count;
        }

        private int append(int ofSection, int atOffset) {
            if (count >= MAX_LABELS) {
                return NONE;
            }
            int l = count;
            section[l] = ofSection;
            offset[l] = atOffset;
            count++;
            return l;
        }

        /** The highest offset of a label in section s; NONE without labels there. */
        private int highestIn(int s) {
            int highest = NONE;
            for (int l = 0; l < count; l++) {
                if (section[l] == s) {
                    highest = Math.max(highest, offset[l]);
                }
            }
            return highest;
        }

        private void copyFrom(Labels other) {
            count = other.count;
            System.arraycopy(other.section, 0, section, 0, MAX_LABELS);
            System.arraycopy(other.offset, 0, offset, 0, MAX_LABELS);
        }
    }

    private static final class Kinds {
        private final int[] shift = new int[MAX_KINDS];
        // 0 bits: this kind is not told yet.
        private final int[] bits = new int[MAX_KINDS];

        private boolean has(int k) {
            return k >= 0 && k < MAX_KINDS && bits[k] != 0;
        }

        private boolean tell(int k, int step, int width) {
            int power = powerOf(step);
            if (k < 0 || k >= MAX_KINDS || power == NONE || width < MIN_BITS || width > MAX_BITS) {
                return false;
            }
            shift[k] = power;
            bits[k] = width;
            return true;
        }

        private static int powerOf(int step) {
            switch (step) {
                case 1: return 0;
                case 2: return 1;
                case 4: return 2;
                case 8: return 3;
                default: return NONE;
            }
        }

        private boolean reaches(int k, long from, long to) {
            if (!has(k)) {
                return false;
            }
            long way = to - from;
            long steps = way >> shift[k];
            long half = 1L << (bits[k] - 1);
            return (steps << shift[k]) == way && steps >= -half && steps < half;
        }

        /** The way in steps, without a sign; NONE if it is beyond reach. */
        private int encode(int k, long from, long to) {
            if (!reaches(k, from, to)) {
                return NONE;
            }
            long steps = (to - from) >> shift[k];
            return (int) (steps & ((1L << bits[k]) - 1));
        }

        /** Where a code of this kind leads from an address. */
        private long follow(int k, long from, int code) {
            if (!has(k)) {
                return NOWHERE;
            }
            long half = 1L << (bits[k] - 1);
            long steps = code >= half ? code - 2 * half : code;
            return from + (steps << shift[k]);
        }

        private void copyFrom(Kinds other) {
            System.arraycopy(other.shift, 0, shift, 0, MAX_KINDS);
            System.arraycopy(other.bits, 0, bits, 0, MAX_KINDS);
        }
    }

    private static final class Branches {
        private int count = 0;
        private final int[] section = new int[MAX_BRANCHES];
        private final int[] offset = new int[MAX_BRANCHES];
        private final int[] kind = new int[MAX_BRANCHES];
        private final int[] label = new int[MAX_BRANCHES];

        private boolean has(int b) {
            return b >= 0 && b < count;
        }

        private int append(int ofSection, int atOffset, int ofKind, int toLabel) {
            if (count >= MAX_BRANCHES) {
                return NONE;
            }
            int b = count;
            section[b] = ofSection;
            offset[b] = atOffset;
            kind[b] = ofKind;
            label[b] = toLabel;
            count++;
            return b;
        }

        /** The highest offset of a branch in section s; NONE without branches there. */
        private int highestIn(int s) {
            int highest = NONE;
            for (int b = 0; b < count; b++) {
                if (section[b] == s) {
                    highest = Math.max(highest, offset[b]);
                }
            }
            return highest;
        }

        private void copyFrom(Branches other) {
            count = other.count;
            System.arraycopy(other.section, 0, section, 0, MAX_BRANCHES);
            System.arraycopy(other.offset, 0, offset, 0, MAX_BRANCHES);
            System.arraycopy(other.kind, 0, kind, 0, MAX_BRANCHES);
            System.arraycopy(other.label, 0, label, 0, MAX_BRANCHES);
        }
    }

    /** All that is told; a layout keeps a copy, so that later tellings don't touch it. */
    private static final class Told {
        private final Sections sections = new Sections();
        private final Labels labels = new Labels();
        private final Kinds kinds = new Kinds();
        private final Branches branches = new Branches();
        private int start = 0;
        // Without told thunks: size 0, and an align at which a pool ends where its section does.
        private int thunkSize = 0;
        private int thunkAlign = 1;
        private int thunkKind = NONE;

        private boolean hasThunks() {
            return thunkSize > 0;
        }

        private boolean tellThunks(int size, int power, int kind) {
            if (size < 1 || size > MAX_THUNK_SIZE || power < 0 || power > MAX_THUNK_ALIGN
                    || !kinds.has(kind)) {
                return false;
            }
            thunkSize = size;
            thunkAlign = 1 << power;
            thunkKind = kind;
            return true;
        }

        private boolean changeSize(int s, int size) {
            if (!sections.has(s) || !Sections.isSize(size)) {
                return false;
            }
            // A label may stand right at its section's end, a branch may not.
            if (labels.highestIn(s) > size || branches.highestIn(s) >= size) {
                return false;
            }
            sections.size[s] = size;
            return true;
        }

        /** How far one thunk of a pool is from the next. */
        private long thunkStride() {
            return alignUp(thunkSize, thunkAlign);
        }

        private void copyFrom(Told other) {
            sections.copyFrom(other.sections);
            labels.copyFrom(other.labels);
            kinds.copyFrom(other.kinds);
            branches.copyFrom(other.branches);
            start = other.start;
            thunkSize = other.thunkSize;
            thunkAlign = other.thunkAlign;
            thunkKind = other.thunkKind;
        }
    }

    /** Where sections and pools are, with so many thunks in each pool. */
    private static final class Addresses {
        private final long[] section = new long[MAX_SECTIONS];
        private final long[] poolStart = new long[MAX_SECTIONS];
        private final long[] poolEnd = new long[MAX_SECTIONS];
        private long end = 0;

        private void find(Told told, int[] thunksInPool) {
            long next = told.start;
            long stride = told.thunkStride();
            for (int s = 0; s < told.sections.count; s++) {
                section[s] = alignUp(next, told.sections.align[s]);
                next = section[s] + told.sections.size[s];
                poolStart[s] = alignUp(next, told.thunkAlign);
                poolEnd[s] = poolStart[s] + thunksInPool[s] * stride;
                if (thunksInPool[s] > 0) {
                    // The last thunk ends the pool: nothing is kept free for one more.
                    next = poolEnd[s] - stride + told.thunkSize;
                }
            }
            end = next;
        }
    }

    /**
     * The thunks in the order in which they were wanted: those below made are
     * there, those from made on are wanted in the round that is under way.
     */
    private static final class Thunks {
        private int made = 0;
        private int wanted = 0;
        private int[] pool = new int[FIRST_THUNK_ROWS];
        private int[] label = new int[FIRST_THUNK_ROWS];
        private int[] round = new int[FIRST_THUNK_ROWS];
        private int[] wanter = new int[FIRST_THUNK_ROWS];
        private int[] users = new int[FIRST_THUNK_ROWS];
        private int[] rank = new int[FIRST_THUNK_ROWS];
        private long[] place = new long[FIRST_THUNK_ROWS];
        private final int[] inPool = new int[MAX_SECTIONS];
        // By pool and label, the number of the one thunk that may be there.
        private final int[] numbers = new int[MAX_THUNKS];

        private boolean has(int t) {
            return t >= 0 && t < made;
        }

        private void clear() {
            made = 0;
            wanted = 0;
            Arrays.fill(inPool, 0);
            Arrays.fill(numbers, NONE);
        }

        private int numberOf(int s, int l) {
            return numbers[s * MAX_LABELS + l];
        }

        private boolean isMade(int s, int l) {
            return has(numberOf(s, l));
        }

        private boolean isWanted(int s, int l) {
            return numberOf(s, l) >= made;
        }

        private void want(int s, int l, int inRound, int b) {
            if (wanted >= MAX_THUNKS) {
                return;
            }
            if (wanted >= pool.length) {
                grow();
            }
            int t = wanted;
            pool[t] = s;
            label[t] = l;
            round[t] = inRound;
            wanter[t] = b;
            users[t] = 0;
            numbers[s * MAX_LABELS + l] = t;
            wanted++;
        }

        private void grow() {
            int rows = Math.min(MAX_THUNKS, pool.length * 2);
            pool = Arrays.copyOf(pool, rows);
            label = Arrays.copyOf(label, rows);
            round = Arrays.copyOf(round, rows);
            wanter = Arrays.copyOf(wanter, rows);
            users = Arrays.copyOf(users, rows);
            rank = Arrays.copyOf(rank, rows);
            place = Arrays.copyOf(place, rows);
        }

        /** Makes what was wanted; false if nothing was. */
        private boolean makeWanted() {
            if (made == wanted) {
                return false;
            }
            for (int t = made; t < wanted; t++) {
                rank[t] = inPool[pool[t]];
                inPool[pool[t]]++;
            }
            made = wanted;
            return true;
        }

        private void findPlaces(Addresses addresses, long stride) {
            for (int t = 0; t < made; t++) {
                place[t] = addresses.poolStart[pool[t]] + rank[t] * stride;
            }
        }

        private int unused() {
            int unused = 0;
            for (int t = 0; t < made; t++) {
                if (users[t] == 0) {
                    unused++;
                }
            }
            return unused;
        }
    }

    /** What the latest lay() made of what was told then. */
    private static final class Layout {
        private final Told told = new Told();
        private final Addresses addresses = new Addresses();
        private final Thunks thunks = new Thunks();
        private final int[] way = new int[MAX_BRANCHES];
        private final int[] byThunk = new int[MAX_BRANCHES];
        private int rounds = 0;
        private int direct = 0;
        private int throughThunks = 0;
        private int refused = 0;

        private void layOut(Told now) {
            told.copyFrom(now);
            thunks.clear();
            for (int round = 1; round <= MAX_ROUNDS; round++) {
                rounds = round;
                addresses.find(told, thunks.inPool);
                thunks.findPlaces(addresses, told.thunkStride());
                if (!anyWanted(round)) {
                    break;
                }
            }
            routeAll();
        }

        private boolean anyWanted(int round) {
            if (!told.hasThunks()) {
                return false;
            }
            for (int b = 0; b < told.branches.count; b++) {
                if (!isDirect(b) && nearestThunk(b) == NONE) {
                    wantThunk(b, round);
                }
            }
            return thunks.makeWanted();
        }

        private void wantThunk(int b, int round) {
            int label = told.branches.label[b];
            long from = branchAddress(b);
            int nearest = NONE;
            long least = 0;
            for (int s = 0; s < told.sections.count; s++) {
                if (!couldHelp(s, b)) {
                    continue;
                }
                if (thunks.isWanted(s, label)) {
                    return;
                }
                long distance = Math.abs(addresses.poolEnd[s] - from);
                if (nearest == NONE || distance < least) {
                    nearest = s;
                    least = distance;
                }
            }
            if (nearest != NONE) {
                thunks.want(nearest, label, round, b);
            }
        }

        /** Whether a new thunk at the end of the pool of section s would do for branch b. */
        private boolean couldHelp(int s, int b) {
            int label = told.branches.label[b];
            if (!told.sections.pool[s] || thunks.isMade(s, label)) {
                return false;
            }
            long end = addresses.poolEnd[s];
            return told.kinds.reaches(told.branches.kind[b], branchAddress(b), end)
                    && told.kinds.reaches(told.thunkKind, end, labelAddress(label));
        }

        private boolean isDirect(int b) {
            long to = labelAddress(told.branches.label[b]);
            return told.kinds.reaches(told.branches.kind[b], branchAddress(b), to);
        }

        /**
         * The nearest thunk by which branch b gets to its label. Pools come by
         * rising addresses, so that of two equally near ones the lower is kept.
         */
        private int nearestThunk(int b) {
            int label = told.branches.label[b];
            long from = branchAddress(b);
            int nearest = NONE;
            long least = 0;
            for (int s = 0; s < told.sections.count; s++) {
                int t = thunks.numberOf(s, label);
                if (!thunks.has(t) || !doesHelp(t, b)) {
                    continue;
                }
                long distance = Math.abs(thunks.place[t] - from);
                if (nearest == NONE || distance < least) {
                    nearest = t;
                    least = distance;
                }
            }
            return nearest;
        }

        private boolean doesHelp(int t, int b) {
            long stop = thunks.place[t];
            return told.kinds.reaches(told.branches.kind[b], branchAddress(b), stop)
                    && told.kinds.reaches(told.thunkKind, stop, labelAddress(thunks.label[t]));
        }

        private void routeAll() {
            direct = 0;
            throughThunks = 0;
            refused = 0;
            for (int b = 0; b < told.branches.count; b++) {
                byThunk[b] = NONE;
                if (isDirect(b)) {
                    way[b] = DIRECT;
                    direct++;
                } else {
                    routeByThunk(b);
                }
            }
        }

        private void routeByThunk(int b) {
            int t = nearestThunk(b);
            byThunk[b] = t;
            if (!thunks.has(t)) {
                way[b] = REFUSED;
                refused++;
                return;
            }
            way[b] = BY_THUNK;
            throughThunks++;
            thunks.users[t]++;
        }

        private long labelAddress(int l) {
            return addresses.section[told.labels.section[l]] + told.labels.offset[l];
        }

        private long branchAddress(int b) {
            return addresses.section[told.branches.section[b]] + told.branches.offset[b];
        }

        private int bytesInAll() {
            return (int) (addresses.end - told.start);
        }

        private int bytesBetween() {
            int bytes = bytesInAll() - thunks.made * told.thunkSize;
            for (int s = 0; s < told.sections.count; s++) {
                bytes -= told.sections.size[s];
            }
            return bytes;
        }

        private int branchCode(int b) {
            if (!told.branches.has(b) || way[b] == REFUSED) {
                return NONE;
            }
            int t = byThunk[b];
            long to = thunks.has(t) ? thunks.place[t] : labelAddress(told.branches.label[b]);
            return told.kinds.encode(told.branches.kind[b], branchAddress(b), to);
        }

        private int thunkCode(int t) {
            if (!thunks.has(t)) {
                return NONE;
            }
            return told.kinds.encode(told.thunkKind, thunks.place[t], labelAddress(thunks.label[t]));
        }

        private long walkFrom(int b) {
            int code = branchCode(b);
            if (code == NONE) {
                return NOWHERE;
            }
            long stop = told.kinds.follow(told.branches.kind[b], branchAddress(b), code);
            int next = thunkCode(byThunk[b]);
            if (next == NONE) {
                return stop;
            }
            return told.kinds.follow(told.thunkKind, stop, next);
        }

        private int whatIsAt(long address) {
            if (address < told.start || address >= addresses.end) {
                return NONE;
            }
            for (int s = 0; s < told.sections.count; s++) {
                if (isWithin(address, addresses.section[s], told.sections.size[s])) {
                    return AT_SECTION + s;
                }
            }
            for (int t = 0; t < thunks.made; t++) {
                if (isWithin(address, thunks.place[t], told.thunkSize)) {
                    return AT_THUNK + t;
                }
            }
            return AT_NOTHING;
        }

        private static boolean isWithin(long address, long start, int size) {
            return address >= start && address < start + size;
        }
    }
}
