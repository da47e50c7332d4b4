import java.util.ArrayList;
import java.util.HashMap;
import java.util.List;
import java.util.Map;
import java.util.regex.Matcher;
import java.util.regex.Pattern;

/** The document once more, written plainly and by other ways than the class: real arrays, real kinds, grids, patterns. */
final class Model {
    /** What a call ends with before its answer: a refusal, or -10 less a fault. */
    private static final class Ends extends RuntimeException {
        private static final long serialVersionUID = 1L;
        final int answer;

        Ends(int answer) {
            super(null, null, false, false);
            this.answer = answer;
        }
    }

    private interface Wooer {
        Model at();

        int number();

        default int wooed() {
            at().leave(4);
            return number();
        }
    }

    private static class Ward implements Wooer {
        final Model model;
        final int number, nose, row, column;

        Ward(Model model, int number, int nose, int row, int column) {
            this.model = model;
            this.number = number;
            this.nose = nose;
            this.row = row;
            this.column = column;
        }

        public Model at() {
            return model;
        }

        public int number() {
            return number;
        }

        int kind() {
            return 0;
        }

        int minding() {
            return nose;
        }

        int tells() {
            return plainly();
        }

        final int plainly() {
            model.leave(1);
            return nose;
        }
    }

    private static class Rich extends Ward {
        Rich(Model model, int number, int nose, int row, int column) {
            super(model, number, nose, row, column);
        }

        @Override int kind() {
            return 1;
        }

        @Override int minding() {
            return super.minding() + 1;
        }

        @Override int tells() {
            model.leave(2);
            return super.tells() + 100;
        }
    }

    private static final class Fine extends Rich {
        Fine(Model model, int number, int nose, int row, int column) {
            super(model, number, nose, row, column);
        }

        @Override int kind() {
            return 2;
        }

        @Override int minding() {
            return 2 * super.minding();
        }

        @Override int tells() {
            model.leave(3);
            return super.tells() + plainly();
        }

        @Override public int wooed() {
            model.leave(5);
            return 60;
        }
    }

    private static final class Work {
        int strong, row, column, vane;
    }

    private boolean stands;
    private int high, wide, law, trace, fault;
    private List<Ward> wards = new ArrayList<>();
    private List<Work> works = new ArrayList<>();
    private final List<int[]> readings = new ArrayList<>();
    private final Object[] sheets = new Object[4];

    void leave(int number) {
        trace = trace * 31 + number;
    }

    // ---- asking

    /** The answer of a call by its name. */
    long ask(String call, int... a) {
        boolean namesFaults = List.of("town", "told", "sheet", "put", "cell", "copy", "as").contains(call);
        if (namesFaults) {
            fault = 0;
        }
        try {
            return answer(call, a);
        } catch (Ends e) {
            if (namesFaults && e.answer <= -11) {
                fault = -10 - e.answer;
            }
            return call.equals("cell") || call.equals("odds") ? Long.MIN_VALUE : e.answer;
        }
    }

    private long answer(String call, int[] a) {
        switch (call) {
            case "town": return town(a[0], a[1], a[2], a[3]);
            case "ofWard": return ofWard(ward(a[0]), a[1]);
            case "ofWork": return ofWork(work(a[0]), a[1]);
            case "law": return newLaw(a[0]);
            case "turn": return newVane(work(a[0]), a[1]);
            case "smell": return smellIn(cellRow(a[0]), cellColumn(a[0]));
            case "minds": return minded(ward(a[0]));
            case "burden": needTown(); return burden();
            case "told": return told(a[0], a[1], a[2], a[3]);
            case "vote": return vote(ward(a[0]), work(a[1]));
            case "ballot": return ballot(work(a[0]), new Ward[0], 0);
            case "year": needTown(); return year();
            case "round": need(a[0] == 0 || a[0] == 1, -2); needTown(); return round()[a[0]];
            case "best": need(a[0] >= -1, -1); needTown(); return least(a[0], false);
            case "calm": need(a[0] >= -1, -1); needTown(); return least(a[0], true);
            case "bribe": return bribe(work(a[0]), a[1]);
            case "reading": return newReading(a[0], a[1]);
            case "back": return back(a[0]);
            case "settings": need(a[0] >= -1, -1); needTown(); return settings(a[0]);
            case "laws": needTown(); return laws();
            case "powers": return powers(work(a[0]));
            case "odds": return odds(a[0], a[1], a[2]);
            default: return answerOfParts(call, a);
        }
    }

    private long answerOfParts(String call, int[] a) {
        switch (call) {
            case "sheet": return sheet(a[0], a[1], a[2]);
            case "lose": return lose(a[0]);
            case "put": return put(a[0], a[1], a[2]);
            case "cell": return cell(a[0], a[1], a[2]);
            case "copy": return copy(a[0], a[1], a[2], a[3], a[4]);
            case "tell": return ward(a[0]).tells();
            case "woo": return ward(a[0]).wooed();
            case "as": return as(ward(a[0]), a[1]);
            case "trace": return trace;
            case "fault": return fault;
            case "many": need(a[0] >= 0 && a[0] <= 4, -2); return many(a[0]);
            default: throw new IllegalArgumentException(call);
        }
    }

    private static void need(boolean holds, int answer) {
        if (!holds) {
            throw new Ends(answer);
        }
    }

    private void needTown() {
        need(stands, -3);
    }

    private Ward ward(int k) {
        need(k >= 0 && k < wards.size(), -1);
        return wards.get(k);
    }

    private Work work(int w) {
        need(w >= 0 && w < works.size(), -1);
        return works.get(w);
    }

    private int cellRow(int c) {
        need(c >= 0 && c < high * wide, -1);
        return c / wide;
    }

    private int cellColumn(int c) {
        need(c >= 0 && c < high * wide, -1);
        return c % wide;
    }

    // ---- sheets

    private static int length(Object row) {
        return java.lang.reflect.Array.getLength(row);
    }

    private static int laneOf(Object row) {
        return row instanceof byte[] ? 0 : row instanceof short[] ? 1 : 2;
    }

    private static int at(Object row, int i) {
        return ((Number) java.lang.reflect.Array.get(row, i)).intValue();
    }

    private static void set(Object row, int i, int v) {
        if (row instanceof byte[]) {
            ((byte[]) row)[i] = (byte) v;
        } else if (row instanceof short[]) {
            ((short[]) row)[i] = (short) v;
        } else {
            ((int[]) row)[i] = v;
        }
    }

    private static Object newRow(int lane, int n) {
        return lane == 0 ? new byte[n] : lane == 1 ? new short[n] : (Object) new int[n];
    }

    private static void needSheet(int k) {
        need(k >= 0 && k <= 3, -1);
    }

    private static void needLane(int lane) {
        need(lane >= 0 && lane <= 2, -2);
    }

    private int[] taken(Object row, int lane, int i, int n) {
        need(row == null || laneOf(row) == lane, -12);
        need(row != null, -11);
        need(n >= 0, -14);
        need(i >= 0 && (long) i + n <= length(row), -13);
        int[] numbers = new int[n];
        for (int k = 0; k < n; k++) {
            numbers[k] = at(row, i + k);
        }
        return numbers;
    }

    private long sheet(int k, int lane, int n) {
        needSheet(k);
        needLane(lane);
        need(n <= 60, -2);
        need(n >= 0, -14);
        sheets[k] = newRow(lane, n);
        return 1;
    }

    private long lose(int k) {
        needSheet(k);
        boolean had = sheets[k] != null;
        sheets[k] = null;
        return had ? 1 : 0;
    }

    private long put(int k, int i, int v) {
        needSheet(k);
        need(sheets[k] != null, -11);
        need(i >= 0 && i < length(sheets[k]), -13);
        set(sheets[k], i, v);
        return 1;
    }

    private long cell(int k, int i, int lane) {
        needSheet(k);
        needLane(lane);
        return taken(sheets[k], lane, i, 1)[0];
    }

    private long copy(int k, int i, int other, int j, int n) {
        needSheet(k);
        needSheet(other);
        need(sheets[k] != null, -11);
        need(sheets[other] != null, -11);
        need(sheets[k].getClass() == sheets[other].getClass(), -12);
        need(i >= 0 && j >= 0 && n >= 0, -13);
        need((long) i + n <= length(sheets[k]) && (long) j + n <= length(sheets[other]), -13);
        int[] numbers = taken(sheets[k], laneOf(sheets[k]), i, n);
        for (int c = 0; c < n; c++) {
            set(sheets[other], j + c, numbers[c]);
        }
        return n;
    }

    // ---- the town

    private static final List<Pattern> TEXTS = new ArrayList<>();

    static {
        for (int h = 1; h <= 4; h++) {
            for (int w = 2; w <= 6; w++) {
                TEXTS.add(Pattern.compile("t" + h + w + "(;([.]|x[1-9]|[wrf][1-9]){" + w + "}){" + h + "}"));
            }
        }
    }

    private static boolean isText(String codes) {
        return countsHold(codes) && TEXTS.stream().anyMatch(p -> p.matcher(codes).matches());
    }

    private static boolean goesOn(String codes) {
        return countsHold(codes) && TEXTS.stream().anyMatch(p -> {
            Matcher m = p.matcher(codes);
            return m.matches() || m.hitEnd();
        });
    }

    private static boolean countsHold(String codes) {
        return codes.replaceAll("[^x]", "").length() <= 4 && codes.replaceAll("[^wrf]", "").length() <= 6;
    }

    private long town(int sheet, int lane, int i, int n) {
        needSheet(sheet);
        needLane(lane);
        int[] numbers = taken(sheets[sheet], lane, i, n);
        StringBuilder codes = new StringBuilder();
        for (int number : numbers) {
            codes.append(number < 0 || number > 127 ? '?' : (char) number);
        }
        String text = codes.toString();
        if (!isText(text)) {
            int place = 0;
            while (place < n && goesOn(text.substring(0, place + 1))) {
                place++;
            }
            return -100 - place;
        }
        settle(text);
        return wards.size();
    }

    private void settle(String text) {
        stands = true;
        high = text.charAt(1) - '0';
        wide = text.charAt(2) - '0';
        law = 0;
        wards = new ArrayList<>();
        works = new ArrayList<>();
        readings.clear();
        String[] rows = text.substring(4).split(";");
        for (int r = 0; r < high; r++) {
            String[] parts = rows[r].split("(?<=[.0-9])");
            for (int c = 0; c < wide; c++) {
                settle(parts[c], r, c);
            }
        }
    }

    private void settle(String part, int r, int c) {
        int much = part.length() == 2 ? part.charAt(1) - '0' : 0;
        switch (part.charAt(0)) {
            case 'x':
                Work w = new Work();
                w.strong = much;
                w.row = r;
                w.column = c;
                works.add(w);
                break;
            case 'w': wards.add(new Ward(this, wards.size(), much, r, c)); break;
            case 'r': wards.add(new Rich(this, wards.size(), much, r, c)); break;
            case 'f': wards.add(new Fine(this, wards.size(), much, r, c)); break;
            default: break;
        }
    }

    private long ofWard(Ward k, int what) {
        need(what >= 0 && what <= 3, -2);
        return new int[] {k.kind(), k.nose, k.row * wide + k.column, k.minding()}[what];
    }

    private long ofWork(Work w, int what) {
        need(what >= 0 && what <= 2, -2);
        return new int[] {w.row * wide + w.column, w.strong, w.vane}[what];
    }

    private long newLaw(int v) {
        need(v >= 0 && v <= 2, -2);
        needTown();
        int was = law;
        law = v;
        return was;
    }

    private long newVane(Work w, int v) {
        need(v >= 0 && v <= 3, -2);
        int was = w.vane;
        w.vane = v;
        return was;
    }

    // ---- smells

    private static int comes(Work w, int row, int column) {
        int down = row - w.row;
        int right = column - w.column;
        boolean onWay;
        switch (w.vane) {
            case 0: onWay = right == 0 && down <= 0; break;
            case 1: onWay = down == 0 && right >= 0; break;
            case 2: onWay = right == 0 && down >= 0; break;
            default: onWay = down == 0 && right <= 0; break;
        }
        int k = Math.abs(down) + Math.abs(right);
        return onWay && k < w.strong ? w.strong - k : 0;
    }

    private int smellIn(int row, int column) {
        List<Integer> all = new ArrayList<>();
        for (Work w : works) {
            if (comes(w, row, column) > 0) {
                all.add(comes(w, row, column));
            }
        }
        if (law == 0) {
            return all.stream().mapToInt(n -> n).sum();
        }
        if (law == 1) {
            return all.stream().mapToInt(n -> n).max().orElse(0);
        }
        int there = 0;
        for (int next : all) {
            there = next > there ? next - there : there - next;
        }
        return there;
    }

    private int minded(Ward k) {
        return k.minding() * smellIn(k.row, k.column);
    }

    private int burden() {
        return wards.stream().mapToInt(this::minded).sum();
    }

    private int[] vanes() {
        return works.stream().mapToInt(w -> w.vane).toArray();
    }

    private void setVanes(int[] vanes) {
        for (int w = 0; w < vanes.length; w++) {
            works.get(w).vane = vanes[w];
        }
    }

    private long told(int sheet, int lane, int i, int n) {
        needSheet(sheet);
        needLane(lane);
        needTown();
        int[] vanes = taken(sheets[sheet], lane, i, n);
        need(n == works.size(), -2);
        for (int v : vanes) {
            need(v >= 0 && v <= 3, -2);
        }
        int[] kept = vanes();
        setVanes(vanes);
        int sum = burden();
        setVanes(kept);
        return sum;
    }

    // ---- votes

    private int vote(Ward k, Work w) {
        int kept = w.vane;
        int[] minded = new int[4];
        for (int v = 0; v < 4; v++) {
            w.vane = v;
            minded[v] = minded(k);
        }
        w.vane = kept;
        int choice = 0;
        for (int v = 1; v < 4; v++) {
            choice = minded[v] < minded[choice] ? v : choice;
        }
        return choice;
    }

    private int ballot(Work w, Ward[] bribed, int bribedFor) {
        int[] votes = new int[4];
        for (Ward k : wards) {
            boolean isBribed = List.of(bribed).contains(k);
            votes[isBribed ? bribedFor : vote(k, w)]++;
        }
        int choice = 0;
        for (int v = 1; v < 4; v++) {
            choice = votes[v] > votes[choice] ? v : choice;
        }
        return choice;
    }

    private int year() {
        int turns = 0;
        for (Work w : works) {
            int v = ballot(w, new Ward[0], 0);
            turns += v == w.vane ? 0 : 1;
            w.vane = v;
        }
        return turns;
    }

    private int[] round() {
        int[] kept = vanes();
        Map<String, Integer> seen = new HashMap<>();
        int years = 0;
        String now = java.util.Arrays.toString(vanes());
        while (!seen.containsKey(now)) {
            seen.put(now, years);
            year();
            years++;
            now = java.util.Arrays.toString(vanes());
        }
        setVanes(kept);
        return new int[] {seen.get(now), years - seen.get(now)};
    }

    /** All settings, as rows in their order. */
    private List<int[]> allSettings() {
        List<int[]> rows = new ArrayList<>();
        rows.add(new int[0]);
        for (int w = 0; w < works.size(); w++) {
            List<int[]> longer = new ArrayList<>();
            for (int[] row : rows) {
                for (int v = 0; v < 4; v++) {
                    int[] next = java.util.Arrays.copyOf(row, w + 1);
                    next[w] = v;
                    longer.add(next);
                }
            }
            rows = longer;
        }
        return rows;
    }

    private long least(int w, boolean calm) {
        int[] kept = vanes();
        int[] first = null;
        int least = 0;
        for (int[] row : allSettings()) {
            setVanes(row);
            int cost = calm ? wards.stream().mapToInt(this::minded).max().orElse(0) : burden();
            if (first == null || cost < least) {
                first = row;
                least = cost;
            }
        }
        setVanes(kept);
        return w == -1 ? least : w < first.length ? first[w] : -9;
    }

    private long bribe(Work w, int v) {
        need(v >= 0 && v <= 3, -2);
        for (int size = 0; size <= wards.size(); size++) {
            for (int set = 0; set < 64; set++) {
                if (set >> wards.size() == 0 && Integer.bitCount(set) == size && ballot(w, members(set), v) == v) {
                    return set;
                }
            }
        }
        return -9;
    }

    private Ward[] members(int set) {
        return wards.stream().filter(k -> (set >> k.number & 1) == 1).toArray(Ward[]::new);
    }

    // ---- how it smelt

    private long newReading(int c, int v) {
        cellRow(c);
        need(v >= 0 && v <= 99, -2);
        need(readings.size() < 8, -4);
        readings.add(new int[] {cellRow(c), cellColumn(c), v});
        return readings.size() - 1;
    }

    private long back(int k) {
        need(k >= 0 && k <= readings.size(), -2);
        for (int r = 0; r < k; r++) {
            readings.remove(readings.size() - 1);
        }
        return readings.size();
    }

    private boolean agrees() {
        return readings.stream().allMatch(r -> smellIn(r[0], r[1]) == r[2]);
    }

    private long settings(int w) {
        int[] kept = vanes();
        List<int[]> such = new ArrayList<>();
        for (int[] row : allSettings()) {
            setVanes(row);
            if (agrees()) {
                such.add(row);
            }
        }
        setVanes(kept);
        if (w == -1) {
            return such.size();
        }
        return such.isEmpty() || w >= works.size() ? -9 : such.get(0)[w];
    }

    private long laws() {
        int kept = law;
        int set = 0;
        for (law = 0; law < 3; law++) {
            set += agrees() ? 1 << law : 0;
        }
        law = kept;
        return set;
    }

    private long powers(Work w) {
        int kept = w.strong;
        int set = 0;
        for (w.strong = 1; w.strong < 10; w.strong++) {
            set += agrees() ? 1 << w.strong : 0;
        }
        w.strong = kept;
        return set;
    }

    private long odds(int c, int v, int which) {
        cellRow(c);
        need(v >= 0 && v <= 99, -2);
        need(which == 0 || which == 1, -2);
        int[] kept = vanes();
        long upper = 0;
        long lower = 0;
        for (int[] row : allSettings()) {
            setVanes(row);
            upper += smellIn(cellRow(c), cellColumn(c)) >= v ? 1 : 0;
            lower++;
        }
        setVanes(kept);
        long common = java.math.BigInteger.valueOf(upper).gcd(java.math.BigInteger.valueOf(lower)).longValue();
        return (which == 0 ? upper : lower) / common;
    }

    // ---- parts

    private long as(Ward k, int kind) {
        need(kind >= 0 && kind <= 2, -2);
        Class<?>[] kinds = {Ward.class, Rich.class, Fine.class};
        need(kinds[kind].isInstance(k), -12);
        return 1;
    }

    private long many(int what) {
        return new int[] {high * wide, works.size(), wards.size(), law, readings.size()}[what];
    }
}
