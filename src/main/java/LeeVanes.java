import java.util.Arrays;

/** A town with works that smell and wards that vote on the vanes of the works; ../shared/DOC.md says what it must do. */
public final class LeeVanes {
    public static final int UNKNOWN = -1, OUTSIDE = -2, STATE = -3, FULL = -4, NONE = -9;
    public static final long LOST = Long.MIN_VALUE;

    private static final int FAULT_NULL = 1, FAULT_CAST = 2, FAULT_INDEX = 3, FAULT_SIZE = 4;
    private static final int WARD = 0, RICH = 1, FINE = 2, KINDS = 3;
    private static final int LAW_SUM = 0, LAW_STRONGEST = 1, LAWS = 3;
    private static final int WAYS = 4, LANES = 3, SHEETS = 4;
    private static final int MOST_HIGH = 4, MOST_WIDE = 6, MOST_CELLS = 24;
    private static final int MOST_WORKS = 4, MOST_WARDS = 6, MOST_READINGS = 8, MOST_SETTINGS = 256;
    private static final int MOST_DIGIT = 9, MOST_SMELL_READ = 99, MOST_IN_SHEET = 60;
    private static final int NO_CODE = -1, NO_DIGIT = -1, NO_KIND = -1, NO_LANE = -1, NOT_YET = -1;
    /** Farther than any work is strong, and dearer than any burden. */
    private static final int FAR_OFF = 1000000;
    private static final int[] STEP_DOWN = {-1, 0, 1, 0};
    private static final int[] STEP_RIGHT = {0, 1, 0, -1};

    private final Sheet[] sheets = new Sheet[SHEETS];
    private final TextReader reader = new TextReader();
    private final int[] firstYear = new int[MOST_SETTINGS];
    /** The spare one takes the next text, so that a text with a fault leaves the present town as it is. */
    private Town present = new Town();
    private Town spare = new Town();
    private int traced = 0;
    private int lastFault = 0;

    public LeeVanes() {
        for (int k = 0; k < sheets.length; k++) {
            sheets[k] = new Sheet();
        }
    }

    // ---- 1 the town

    public int town(int sheet, int lane, int i, int n) {
        lastFault = 0;
        Sheet s = sheetAt(sheet);
        if (s == null) {
            return UNKNOWN;
        }
        if (!isUpTo(lane, LANES - 1)) {
            return OUTSIDE;
        }
        int found = s.faultOfTaking(lane, i, n);
        if (found != 0) {
            return fail(found);
        }
        reader.load(s, i, n);
        if (!reader.readInto(spare)) {
            return -100 - reader.place;
        }
        Town old = present;
        present = spare;
        spare = old;
        return present.wards;
    }

    public int ofWard(int k, int what) {
        if (!present.hasWard(k)) {
            return UNKNOWN;
        }
        switch (what) {
            case 0: return read(present.kinds, k);
            case 1: return read(present.noses, k);
            case 2: return read(present.wardCells, k);
            case 3: return present.factorOf(k);
            default: return OUTSIDE;
        }
    }

    public int ofWork(int w, int what) {
        if (!present.hasWork(w)) {
            return UNKNOWN;
        }
        switch (what) {
            case 0: return read(present.workCells, w);
            case 1: return read(present.strengths, w);
            case 2: return present.vaneIn(present.setting, w);
            default: return OUTSIDE;
        }
    }

    public int law(int v) {
        if (!isUpTo(v, LAWS - 1)) {
            return OUTSIDE;
        }
        if (!present.stands) {
            return STATE;
        }
        int before = present.lawNow;
        present.lawNow = v;
        return before;
    }

    public int turn(int w, int v) {
        if (!present.hasWork(w)) {
            return UNKNOWN;
        }
        if (!isUpTo(v, WAYS - 1)) {
            return OUTSIDE;
        }
        int before = present.vaneIn(present.setting, w);
        present.setting = present.turned(present.setting, w, v);
        return before;
    }

    // ---- 2 smells

    public int smell(int c) {
        return present.hasCell(c) ? present.smellBy(present.setting, c) : UNKNOWN;
    }

    public int minds(int k) {
        return present.hasWard(k) ? present.mindedBy(present.setting, k) : UNKNOWN;
    }

    public int burden() {
        return present.stands ? present.burdenBy(present.setting) : STATE;
    }

    public int told(int sheet, int lane, int i, int n) {
        lastFault = 0;
        Sheet s = sheetAt(sheet);
        if (s == null) {
            return UNKNOWN;
        }
        if (!isUpTo(lane, LANES - 1)) {
            return OUTSIDE;
        }
        if (!present.stands) {
            return STATE;
        }
        int found = s.faultOfTaking(lane, i, n);
        if (found != 0) {
            return fail(found);
        }
        if (n != present.works) {
            return OUTSIDE;
        }
        int setting = 0;
        for (int w = 0; w < n; w++) {
            int v = read(s.row, i + w);
            if (!isUpTo(v, WAYS - 1)) {
                return OUTSIDE;
            }
            setting = present.turned(setting, w, v);
        }
        return present.burdenBy(setting);
    }

    // ---- 3 votes

    public int vote(int k, int w) {
        boolean known = present.hasWard(k) && present.hasWork(w);
        return known ? present.voteBy(present.setting, k, w) : UNKNOWN;
    }

    public int ballot(int w) {
        return present.hasWork(w) ? present.ballotBy(present.setting, w) : UNKNOWN;
    }

    public int year() {
        if (!present.stands) {
            return STATE;
        }
        int before = present.setting;
        present.setting = present.yearAfter(before);
        int turns = 0;
        for (int w = 0; w < present.works; w++) {
            if (present.vaneIn(before, w) != present.vaneIn(present.setting, w)) {
                turns++;
            }
        }
        return turns;
    }

    public int round(int what) {
        if (!isUpTo(what, 1)) {
            return OUTSIDE;
        }
        if (!present.stands) {
            return STATE;
        }
        Arrays.fill(firstYear, NOT_YET);
        int setting = present.setting;
        int years = 0;
        while (years <= MOST_SETTINGS && read(firstYear, setting) == NOT_YET) {
            write(firstYear, setting, years);
            setting = present.yearAfter(setting);
            years++;
        }
        int till = read(firstYear, setting);
        return what == 0 ? till : years - till;
    }

    public int best(int w) {
        return leastBy(w, false);
    }

    public int calm(int w) {
        return leastBy(w, true);
    }

    public int bribe(int w, int v) {
        if (!present.hasWork(w)) {
            return UNKNOWN;
        }
        return isUpTo(v, WAYS - 1) ? present.fewestBribed(w, v) : OUTSIDE;
    }

    // ---- 4 how it smelt

    public int reading(int c, int v) {
        if (!present.hasCell(c)) {
            return UNKNOWN;
        }
        if (!isUpTo(v, MOST_SMELL_READ)) {
            return OUTSIDE;
        }
        if (present.readings >= MOST_READINGS) {
            return FULL;
        }
        int number = present.readings;
        write(present.readingCells, number, c);
        write(present.readingSmells, number, v);
        present.readings = number + 1;
        return number;
    }

    public int back(int k) {
        if (!isUpTo(k, present.readings)) {
            return OUTSIDE;
        }
        present.readings -= k;
        return present.readings;
    }

    public int settings(int w) {
        if (w < -1) {
            return UNKNOWN;
        }
        if (!present.stands) {
            return STATE;
        }
        int first = NONE;
        int count = 0;
        for (int setting = 0; setting < present.settingsInAll(); setting++) {
            if (present.agreesBy(setting)) {
                first = count == 0 ? setting : first;
                count++;
            }
        }
        if (w == -1) {
            return count;
        }
        return count == 0 ? NONE : vaneOrNone(first, w);
    }

    public int laws() {
        if (!present.stands) {
            return STATE;
        }
        int kept = present.lawNow;
        int set = 0;
        for (int v = 0; v < LAWS; v++) {
            present.lawNow = v;
            if (present.agreesBy(present.setting)) {
                set |= 1 << v;
            }
        }
        present.lawNow = kept;
        return set;
    }

    public int powers(int w) {
        if (!present.hasWork(w)) {
            return UNKNOWN;
        }
        int kept = read(present.strengths, w);
        int set = 0;
        for (int strong = 1; strong <= MOST_DIGIT; strong++) {
            write(present.strengths, w, strong);
            if (present.agreesBy(present.setting)) {
                set |= 1 << strong;
            }
        }
        write(present.strengths, w, kept);
        return set;
    }

    public long odds(int c, int v, int which) {
        if (!present.hasCell(c) || !isUpTo(v, MOST_SMELL_READ) || !isUpTo(which, 1)) {
            return LOST;
        }
        int lower = present.settingsInAll();
        int upper = 0;
        for (int setting = 0; setting < present.settingsInAll(); setting++) {
            if (present.smellBy(setting, c) >= v) {
                upper++;
            }
        }
        // The lower number is a power of two, so halving alone brings the least terms.
        for (int halved = 0; halved < 2 * MOST_WORKS; halved++) {
            if (lower > 1 && (upper & 1) == 0) {
                upper >>= 1;
                lower >>= 1;
            }
        }
        return which == 0 ? upper : lower;
    }

    // ---- 5 sheets, parts

    public int sheet(int k, int lane, int n) {
        lastFault = 0;
        Sheet s = sheetAt(k);
        if (s == null) {
            return UNKNOWN;
        }
        if (!isUpTo(lane, LANES - 1) || n > MOST_IN_SHEET) {
            return OUTSIDE;
        }
        if (n < 0) {
            return fail(FAULT_SIZE);
        }
        s.renew(lane, n);
        return 1;
    }

    public int lose(int k) {
        Sheet s = sheetAt(k);
        if (s == null) {
            return UNKNOWN;
        }
        if (!s.hasRow()) {
            return 0;
        }
        s.renew(NO_LANE, 0);
        return 1;
    }

    public int put(int k, int i, int v) {
        lastFault = 0;
        Sheet s = sheetAt(k);
        if (s == null) {
            return UNKNOWN;
        }
        int found = s.faultOfTaking(s.lane, i, 1);
        if (found != 0) {
            return fail(found);
        }
        write(s.row, i, s.cut(v));
        return 1;
    }

    public long cell(int k, int i, int lane) {
        lastFault = 0;
        Sheet s = sheetAt(k);
        if (s == null || !isUpTo(lane, LANES - 1)) {
            return LOST;
        }
        lastFault = s.faultOfTaking(lane, i, 1);
        return lastFault == 0 ? read(s.row, i) : LOST;
    }

    public int copy(int k, int i, int other, int j, int n) {
        lastFault = 0;
        Sheet from = sheetAt(k);
        Sheet to = sheetAt(other);
        if (from == null || to == null) {
            return UNKNOWN;
        }
        if (!from.hasRow() || !to.hasRow()) {
            return fail(FAULT_NULL);
        }
        if (from.lane != to.lane) {
            return fail(FAULT_CAST);
        }
        if (!from.holds(i, n) || !to.holds(j, n)) {
            return fail(FAULT_INDEX);
        }
        System.arraycopy(from.row, i, to.row, j, n);
        return n;
    }

    public int tell(int k) {
        if (!present.hasWard(k)) {
            return UNKNOWN;
        }
        switch (read(present.kinds, k)) {
            case FINE: return tellFine(k);
            case RICH: return tellRich(k);
            default: return tellWard(k);
        }
    }

    public int woo(int k) {
        if (!present.hasWard(k)) {
            return UNKNOWN;
        }
        if (read(present.kinds, k) == FINE) {
            leave(5);
            return 60;
        }
        leave(4);
        return k;
    }

    public int as(int k, int kind) {
        lastFault = 0;
        if (!present.hasWard(k)) {
            return UNKNOWN;
        }
        if (!isUpTo(kind, KINDS - 1)) {
            return OUTSIDE;
        }
        // Kinds are numbered so that each is also one of all the kinds below it.
        return read(present.kinds, k) >= kind ? 1 : fail(FAULT_CAST);
    }

    public int trace() {
        return traced;
    }

    public int fault() {
        return lastFault;
    }

    public int many(int what) {
        switch (what) {
            case 0: return present.cells;
            case 1: return present.works;
            case 2: return present.wards;
            case 3: return present.lawNow;
            case 4: return present.readings;
            default: return OUTSIDE;
        }
    }

    // ---- what the calls above share

    private static boolean isUpTo(int number, int most) {
        return number >= 0 && number <= most;
    }

    private static int read(int[] row, int i) {
        return i >= 0 && i < row.length ? row[i] : 0;
    }

    private static void write(int[] row, int i, int v) {
        if (i >= 0 && i < row.length) {
            row[i] = v;
        }
    }

    private Sheet sheetAt(int k) {
        return k >= 0 && k < sheets.length ? sheets[k] : null;
    }

    private int fail(int found) {
        lastFault = found;
        return -10 - found;
    }

    private int leastBy(int w, boolean isCalm) {
        if (w < -1) {
            return UNKNOWN;
        }
        if (!present.stands) {
            return STATE;
        }
        int choice = present.leastSetting(isCalm);
        if (w == -1) {
            return isCalm ? present.mostMindedBy(choice) : present.burdenBy(choice);
        }
        return vaneOrNone(choice, w);
    }

    private int vaneOrNone(int setting, int w) {
        return present.hasWork(w) ? present.vaneIn(setting, w) : NONE;
    }

    private void leave(int number) {
        traced = 31 * traced + number;
    }

    private int tellWard(int k) {
        leave(1);
        return read(present.noses, k);
    }

    private int tellRich(int k) {
        leave(2);
        return tellWard(k) + 100;
    }

    private int tellFine(int k) {
        leave(3);
        int rich = tellRich(k);
        return rich + tellWard(k);
    }

    /** What a sheet has: nothing, or the first cells of a row that is made once. */
    private static final class Sheet {
        final int[] row = new int[MOST_IN_SHEET];
        int lane = NO_LANE;
        int size = 0;

        boolean hasRow() {
            return lane != NO_LANE;
        }

        void renew(int newLane, int newSize) {
            lane = newLane;
            size = newSize;
            Arrays.fill(row, 0);
        }

        int cut(int v) {
            switch (lane) {
                case 0: return (byte) v;
                case 1: return (short) v;
                default: return v;
            }
        }

        boolean holds(int i, int n) {
            return i >= 0 && i <= size && n >= 0 && n <= size - i;
        }

        /** The first fault in taking n cells from i on as a row of a lane; 0: none. */
        int faultOfTaking(int asLane, int i, int n) {
            if (!hasRow()) {
                return FAULT_NULL;
            }
            if (lane != asLane) {
                return FAULT_CAST;
            }
            if (n < 0) {
                return FAULT_SIZE;
            }
            return holds(i, n) ? 0 : FAULT_INDEX;
        }
    }

    /** Reads a text code by code; a text with a fault leaves the place of the fault. */
    private static final class TextReader {
        private final int[] codes = new int[MOST_IN_SHEET];
        private int size = 0;
        int place = 0;

        void load(Sheet s, int from, int n) {
            place = 0;
            size = n;
            for (int k = 0; k < n; k++) {
                write(codes, k, read(s.row, from + k));
            }
        }

        boolean readInto(Town t) {
            t.clear();
            if (!takes('t')) {
                return false;
            }
            int high = digit(1, MOST_HIGH);
            int wide = high == NO_DIGIT ? NO_DIGIT : digit(2, MOST_WIDE);
            if (wide == NO_DIGIT) {
                return false;
            }
            t.measure(high, wide);
            for (int r = 0; r < high; r++) {
                if (!readRow(t, r)) {
                    return false;
                }
            }
            t.stands = place == size;
            return t.stands;
        }

        private boolean readRow(Town t, int r) {
            if (!takes(';')) {
                return false;
            }
            for (int c = 0; c < t.wide; c++) {
                if (!takes('.') && !readPart(t, r, c)) {
                    return false;
                }
            }
            return true;
        }

        private boolean readPart(Town t, int r, int c) {
            boolean isWork = next() == 'x';
            int kind = kindOf(next());
            boolean isWard = kind != NO_KIND;
            // The letter itself is the fault where there is no room for one more.
            if (!(isWork && t.works < MOST_WORKS) && !(isWard && t.wards < MOST_WARDS)) {
                return false;
            }
            place++;
            int much = digit(1, MOST_DIGIT);
            if (much == NO_DIGIT) {
                return false;
            }
            if (isWork) {
                t.addWork(r, c, much);
            } else {
                t.addWard(kind, r * t.wide + c, much);
            }
            return true;
        }

        private static int kindOf(int code) {
            switch (code) {
                case 'w': return WARD;
                case 'r': return RICH;
                case 'f': return FINE;
                default: return NO_KIND;
            }
        }

        private int next() {
            return place < size ? read(codes, place) : NO_CODE;
        }

        private boolean takes(int code) {
            if (next() != code) {
                return false;
            }
            place++;
            return true;
        }

        private int digit(int least, int most) {
            int code = next();
            if (code < '0' + least || code > '0' + most) {
                return NO_DIGIT;
            }
            place++;
            return code - '0';
        }
    }

    /**
     * A town. A setting of all vanes is one number, base four, the vane of work 0 ahead of all:
     * so the order of the numbers is the order of the rows.
     */
    private static final class Town {
        final int[] kinds = new int[MOST_WARDS];
        final int[] noses = new int[MOST_WARDS];
        final int[] wardCells = new int[MOST_WARDS];
        final int[] workCells = new int[MOST_WORKS];
        final int[] strengths = new int[MOST_WORKS];
        final int[] readingCells = new int[MOST_READINGS];
        final int[] readingSmells = new int[MOST_READINGS];
        /** By work, vane and cell: how many steps the smell goes till it comes there. */
        private final int[] distances = new int[MOST_WORKS * WAYS * MOST_CELLS];
        private final int[] votes = new int[MOST_WARDS];
        boolean stands = false;
        int high = 0;
        int wide = 0;
        int cells = 0;
        int works = 0;
        int wards = 0;
        int lawNow = LAW_SUM;
        int setting = 0;
        int readings = 0;

        void clear() {
            stands = false;
            works = 0;
            wards = 0;
            lawNow = LAW_SUM;
            setting = 0;
            readings = 0;
            measure(0, 0);
        }

        void measure(int newHigh, int newWide) {
            high = newHigh;
            wide = newWide;
            cells = newHigh * newWide;
        }

        void addWard(int kind, int cell, int nose) {
            write(kinds, wards, kind);
            write(wardCells, wards, cell);
            write(noses, wards, nose);
            wards++;
        }

        void addWork(int r, int c, int strong) {
            write(workCells, works, r * wide + c);
            write(strengths, works, strong);
            for (int v = 0; v < WAYS; v++) {
                measureWay(works, v, r, c);
            }
            works++;
        }

        private void measureWay(int w, int v, int startRow, int startColumn) {
            for (int c = 0; c < MOST_CELLS; c++) {
                write(distances, wayIndex(w, v) + c, FAR_OFF);
            }
            int r = startRow;
            int c = startColumn;
            for (int k = 0; k < MOST_WIDE; k++) {
                if (r >= 0 && r < high && c >= 0 && c < wide) {
                    write(distances, wayIndex(w, v) + r * wide + c, k);
                }
                r += read(STEP_DOWN, v);
                c += read(STEP_RIGHT, v);
            }
        }

        private static int wayIndex(int w, int v) {
            return (w * WAYS + v) * MOST_CELLS;
        }

        boolean hasCell(int c) {
            return c >= 0 && c < cells;
        }

        boolean hasWork(int w) {
            return w >= 0 && w < works;
        }

        boolean hasWard(int k) {
            return k >= 0 && k < wards;
        }

        int settingsInAll() {
            return 1 << (2 * works);
        }

        int vaneIn(int s, int w) {
            return (s >> (2 * (works - 1 - w))) & 3;
        }

        int turned(int s, int w, int v) {
            int shift = 2 * (works - 1 - w);
            return (s & ~(3 << shift)) | (v << shift);
        }

        int factorOf(int k) {
            int nose = read(noses, k);
            switch (read(kinds, k)) {
                case FINE: return 2 * (nose + 1);
                case RICH: return nose + 1;
                default: return nose;
            }
        }

        int smellBy(int s, int c) {
            int there = 0;
            for (int w = 0; w < works; w++) {
                int way = wayIndex(w, vaneIn(s, w));
                int comes = Math.max(0, read(strengths, w) - read(distances, way + c));
                if (lawNow == LAW_SUM) {
                    there += comes;
                } else if (lawNow == LAW_STRONGEST) {
                    there = Math.max(there, comes);
                } else {
                    there = Math.abs(there - comes);
                }
            }
            return there;
        }

        int mindedBy(int s, int k) {
            return factorOf(k) * smellBy(s, read(wardCells, k));
        }

        int burdenBy(int s) {
            int sum = 0;
            for (int k = 0; k < wards; k++) {
                sum += mindedBy(s, k);
            }
            return sum;
        }

        int mostMindedBy(int s) {
            int most = 0;
            for (int k = 0; k < wards; k++) {
                most = Math.max(most, mindedBy(s, k));
            }
            return most;
        }

        int voteBy(int s, int k, int w) {
            int choice = 0;
            int least = FAR_OFF;
            for (int v = 0; v < WAYS; v++) {
                int minded = mindedBy(turned(s, w, v), k);
                if (minded < least) {
                    least = minded;
                    choice = v;
                }
            }
            return choice;
        }

        private void castVotes(int s, int w) {
            for (int k = 0; k < wards; k++) {
                write(votes, k, voteBy(s, k, w));
            }
        }

        /** The vane that wins by the votes as cast, where the wards of a set vote for one vane in any case. */
        private int winner(int bribed, int bribedFor) {
            int choice = 0;
            int most = 0;
            for (int v = 0; v < WAYS; v++) {
                int count = 0;
                for (int k = 0; k < wards; k++) {
                    boolean isBribed = ((bribed >> k) & 1) == 1;
                    count += (isBribed ? bribedFor : read(votes, k)) == v ? 1 : 0;
                }
                if (count > most) {
                    most = count;
                    choice = v;
                }
            }
            return choice;
        }

        int ballotBy(int s, int w) {
            castVotes(s, w);
            return winner(0, 0);
        }

        int fewestBribed(int w, int v) {
            castVotes(setting, w);
            int set = NONE;
            int fewest = MOST_WARDS + 1;
            for (int tried = 0; tried < 1 << wards; tried++) {
                int size = Integer.bitCount(tried);
                if (size < fewest && winner(tried, v) == v) {
                    set = tried;
                    fewest = size;
                }
            }
            return set;
        }

        int yearAfter(int s) {
            int now = s;
            for (int w = 0; w < works; w++) {
                castVotes(now, w);
                now = turned(now, w, winner(0, 0));
            }
            return now;
        }

        /** Of all settings the one by which the most that one ward minds (calm) or else the burden is the least. */
        int leastSetting(boolean isCalm) {
            int choice = 0;
            int least = FAR_OFF;
            for (int s = 0; s < settingsInAll(); s++) {
                int cost = isCalm ? mostMindedBy(s) : burdenBy(s);
                if (cost < least) {
                    least = cost;
                    choice = s;
                }
            }
            return choice;
        }

        boolean agreesBy(int s) {
            for (int k = 0; k < readings; k++) {
                if (smellBy(s, read(readingCells, k)) != read(readingSmells, k)) {
                    return false;
                }
            }
            return true;
        }
    }
}
