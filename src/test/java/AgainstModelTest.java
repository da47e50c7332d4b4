import java.util.Arrays;

/** Long runs of calls by a fixed sequence of numbers, each answer compared with the model's. */
public final class AgainstModelTest {
    private static final int RUNS = 1200, CALLS = 512;
    private static final String[] NAMES = {"town", "ofWard", "ofWork", "law", "turn", "smell", "minds", "burden", "told", "vote",
        "ballot", "year", "round", "best", "calm", "bribe", "reading", "back", "settings", "laws", "powers", "odds", "sheet", "lose",
        "put", "cell", "copy", "tell", "woo", "as", "trace", "fault", "many"};
    private static final int[] EDGES = {Integer.MIN_VALUE, -2, -1, 0, 1, 2, 3, 4, 5, 60, 61, 99, 100, Integer.MAX_VALUE};

    private final Checks checks = new Checks();
    private LeeVanes x;
    private Model model;
    private int calls;
    private int run;
    private long seed = 20261119;

    public static void main(String[] args) {
        new AgainstModelTest().all();
    }

    private void all() {
        for (run = 0; run < RUNS; run++) {
            x = new LeeVanes();
            model = new Model();
            calls = 0;
            if (chance(90)) {
                layText();
            }
            while (calls < CALLS) {
                step();
            }
        }
        checks.end();
    }

    private void step() {
        if (chance(1) && calls < 400) {
            layText();
        } else if (chance(1)) {
            layCopy();
        } else if (chance(3)) {
            layVanes();
        } else if (chance(8)) {
            truthfulReading();
        } else {
            String name = NAMES[below(NAMES.length)];
            compare(name, arguments(name));
        }
    }

    // ---- numbers

    private int below(int bound) {
        seed = seed * 6364136223846793005L + 1442695040888963407L;
        return (int) Long.remainderUnsigned(seed >>> 33, bound);
    }

    private boolean chance(int inHundred) {
        return below(100) < inHundred;
    }

    private int about(int bound) {
        return chance(94) ? below(bound) : EDGES[below(EDGES.length)];
    }

    // ---- texts

    private void layText() {
        String text = chance(40) ? mutated(text()) : text();
        int sheet = below(4);
        int lane = below(3);
        int ahead = below(3);
        compare("sheet", sheet, lane, Math.min(60, ahead + text.length() + below(3)));
        for (int i = 0; i < text.length(); i++) {
            compare("put", sheet, ahead + i, text.charAt(i) + (chance(1) ? 65536 : 0));
        }
        compare("town", sheet, lane, ahead, text.length());
        for (int what = 0; what < 5; what++) {
            compare("many", what);
        }
    }

    private String text() {
        int high = 1 + below(4);
        int wide = 2 + below(5);
        int works = 0;
        int wards = 0;
        int density = 25 + below(60);
        StringBuilder text = new StringBuilder().append('t').append(high).append(wide);
        for (int r = 0; r < high; r++) {
            text.append(';');
            for (int c = 0; c < wide; c++) {
                boolean work = chance(40);
                if (!chance(density) || (work ? works == 4 : wards == 6)) {
                    text.append('.');
                    continue;
                }
                works += work ? 1 : 0;
                wards += work ? 0 : 1;
                text.append(work ? 'x' : "wrf".charAt(below(3))).append(1 + below(9));
            }
        }
        return text.toString();
    }

    private String mutated(String text) {
        StringBuilder changed = new StringBuilder(text);
        int i = below(text.length());
        switch (below(4)) {
            case 0: changed.deleteCharAt(i); break;
            case 1: changed.insert(i, "tx19;.wrf05z7".charAt(below(13))); break;
            case 2: changed.setCharAt(i, "tx19;.wrf05z7".charAt(below(13))); break;
            default: changed.setLength(i); break;
        }
        return changed.toString();
    }

    private void layVanes() {
        int n = (int) model.ask("many", 1);
        int sheet = below(4);
        int lane = below(3);
        compare("sheet", sheet, lane, n + below(3));
        for (int i = 0; i < n; i++) {
            compare("put", sheet, i, chance(97) ? below(4) : below(9) - 3);
        }
        compare("told", sheet, lane, below(2), n);
        compare("fault");
    }

    private void layCopy() {
        int from = below(4);
        int to = chance(60) ? from : below(4);
        int lane = below(3);
        compare("sheet", to, lane, 8);
        compare("sheet", from, lane, 8);
        for (int i = 0; i < 8; i++) {
            compare("put", from, i, below(100));
        }
        compare("copy", from, below(4), to, below(4), below(6));
        for (int i = 0; i < 8; i++) {
            compare("cell", to, i, lane);
        }
    }

    private void truthfulReading() {
        int c = below(24);
        long v = model.ask("smell", c);
        if (v >= 0) {
            compare("reading", c, (int) v);
        }
    }

    // ---- calls

    private int[] arguments(String name) {
        switch (name) {
            case "town": case "told": return new int[] {about(4), about(3), about(6), about(6)};
            case "ofWard": return new int[] {about(6), about(4)};
            case "ofWork": return new int[] {about(4), about(3)};
            case "law": case "tell": case "woo": case "minds": return new int[] {about(6)};
            case "turn": case "bribe": return new int[] {about(4), about(4)};
            case "smell": return new int[] {about(24)};
            case "vote": return new int[] {about(6), about(4)};
            case "ballot": case "powers": return new int[] {about(4)};
            case "round": return new int[] {about(2)};
            case "best": case "calm": case "settings": return new int[] {about(6) - 1};
            case "reading": return new int[] {about(24), about(12)};
            case "back": return new int[] {about(9)};
            case "odds": return new int[] {about(24), about(12), about(2)};
            case "sheet": return new int[] {about(4), about(3), about(61)};
            case "lose": return new int[] {about(4)};
            case "put": return new int[] {about(4), about(40), below(2) == 0 ? below(400) - 200 : below(200000) - 100000};
            case "cell": return new int[] {about(4), about(40), about(3)};
            case "copy": return new int[] {about(4), about(9), about(4), about(9), about(20)};
            case "as": return new int[] {about(6), about(3)};
            case "many": return new int[] {about(5)};
            default: return new int[0];
        }
    }

    private void compare(String name, int... a) {
        if (calls >= CALLS) {
            return;
        }
        calls++;
        checks.due("run " + run + ", call " + calls + ": " + name + Arrays.toString(a), Calls.ask(x, name, a), model.ask(name, a));
    }
}
