import java.util.HashMap;
import java.util.Map;
import java.util.regex.Matcher;
import java.util.regex.Pattern;

/** Calls by their names, and calls told with the answer that is due: "turn(0, 4) OUTSIDE". */
final class Calls {
    private static final Pattern CALL = Pattern.compile("(\\w+)\\(([^)]*)\\)");
    private static final Map<String, Long> WORDS = new HashMap<>();

    static {
        WORDS.put("UNKNOWN", -1L);
        WORDS.put("OUTSIDE", -2L);
        WORDS.put("STATE", -3L);
        WORDS.put("FULL", -4L);
        WORDS.put("NONE", -9L);
        WORDS.put("NULL", (long) Checks.NULL);
        WORDS.put("CAST", (long) Checks.CAST);
        WORDS.put("INDEX", (long) Checks.INDEX);
        WORDS.put("SIZE", (long) Checks.SIZE);
        WORDS.put("LOST", Long.MIN_VALUE);
        WORDS.put("MIN", (long) Checks.MIN);
        WORDS.put("MAX", (long) Checks.MAX);
    }

    private Calls() {
    }

    /** Makes the call that is told and compares its answer with the one that is told behind it. */
    static void run(Checks checks, LeeVanes x, String told) {
        int end = told.lastIndexOf(' ');
        String call = told.substring(0, end);
        checks.due(call, ask(x, call), number(told.substring(end + 1)));
    }

    /** Makes the call that is told, such as "turn(0, 3)". */
    static long ask(LeeVanes x, String call) {
        Matcher m = CALL.matcher(call);
        if (!m.matches()) {
            throw new IllegalArgumentException("no call: " + call);
        }
        String[] words = m.group(2).isEmpty() ? new String[0] : m.group(2).split(", ");
        int[] a = new int[words.length];
        for (int i = 0; i < a.length; i++) {
            a[i] = (int) number(words[i]);
        }
        return ask(x, m.group(1), a);
    }

    private static long number(String word) {
        return WORDS.containsKey(word) ? WORDS.get(word) : Long.parseLong(word);
    }

    static long ask(LeeVanes x, String name, int... a) {
        switch (name) {
            case "town": return x.town(a[0], a[1], a[2], a[3]);
            case "ofWard": return x.ofWard(a[0], a[1]);
            case "ofWork": return x.ofWork(a[0], a[1]);
            case "law": return x.law(a[0]);
            case "turn": return x.turn(a[0], a[1]);
            case "smell": return x.smell(a[0]);
            case "minds": return x.minds(a[0]);
            case "burden": return x.burden();
            case "told": return x.told(a[0], a[1], a[2], a[3]);
            case "vote": return x.vote(a[0], a[1]);
            case "ballot": return x.ballot(a[0]);
            case "year": return x.year();
            case "round": return x.round(a[0]);
            case "best": return x.best(a[0]);
            case "calm": return x.calm(a[0]);
            case "bribe": return x.bribe(a[0], a[1]);
            default: return askMore(x, name, a);
        }
    }

    private static long askMore(LeeVanes x, String name, int[] a) {
        switch (name) {
            case "reading": return x.reading(a[0], a[1]);
            case "back": return x.back(a[0]);
            case "settings": return x.settings(a[0]);
            case "laws": return x.laws();
            case "powers": return x.powers(a[0]);
            case "odds": return x.odds(a[0], a[1], a[2]);
            case "sheet": return x.sheet(a[0], a[1], a[2]);
            case "lose": return x.lose(a[0]);
            case "put": return x.put(a[0], a[1], a[2]);
            case "cell": return x.cell(a[0], a[1], a[2]);
            case "copy": return x.copy(a[0], a[1], a[2], a[3], a[4]);
            case "tell": return x.tell(a[0]);
            case "woo": return x.woo(a[0]);
            case "as": return x.as(a[0], a[1]);
            case "trace": return x.trace();
            case "fault": return x.fault();
            case "many": return x.many(a[0]);
            default: throw new IllegalArgumentException(name);
        }
    }
}
