/** What the tests share: laying rows and texts in sheets, comparing, counting what is wrong. */
final class Checks {
    static final int BYTES = 0, SHORTS = 1, INTS = 2;
    static final int NULL = -11, CAST = -12, INDEX = -13, SIZE = -14;
    static final int MIN = Integer.MIN_VALUE, MAX = Integer.MAX_VALUE;

    /**
     * Cells 0 .. 5: work 0 (3 strong), ward 0 (nose 2), ward 1 (rich, nose 1); work 1 (2 strong), nothing,
     * ward 2 (fine, nose 1). Its 16 codes lie in sheet 3.
     */
    static final String SMALL = "t23;x3w2r1;x2.f1";
    /** What SMALL has no work, ward or cell of. */
    static final String[] NO_WORK = {"-1", "2", "4", "MIN", "MAX"}, NO_WARD = {"-1", "3", "6", "MIN", "MAX"};
    static final String[] NO_CELL = {"-1", "6", "24", "MIN", "MAX"};
    static final String[] NO_SHEET = {"-1", "4", "MIN", "MAX"}, NO_LANE = {"-1", "3", "MIN", "MAX"};

    private String subject = "";
    private int wrong = 0;
    private int checked = 0;

    /** What the answers that follow are about; it is told with each that is not as due. */
    void about(String newSubject) {
        subject = newSubject;
    }

    int howMany() {
        return checked;
    }

    void due(String call, long got, long want) {
        checked++;
        if (got != want) {
            wrong++;
            String ahead = subject.isEmpty() ? "" : "\"" + subject + "\": ";
            System.out.println(ahead + call + " answered " + got + ", due is " + want);
        }
    }

    /** Makes the calls that are told, parted by "; ", each with the answer that is due. */
    void run(LeeVanes x, String... calls) {
        for (String line : calls) {
            for (String call : line.split("; ")) {
                Calls.run(this, x, call);
            }
        }
    }

    /** Makes the calls on an object of its own for each number, which stands in place of each "?". */
    void runEach(String text, String calls, String... numbers) {
        for (String number : numbers) {
            run(text.isEmpty() ? new LeeVanes() : townOf(text), calls.replace("?", number));
        }
    }

    /** Takes a text on an object of its own. */
    void text(String text, long want) {
        due("town of " + text, take(new LeeVanes(), text), want);
    }

    /** Ends the test; the exit code tells whether anything was wrong. */
    void end() {
        System.out.println(checked + " answers, " + wrong + " not as due");
        if (wrong != 0) {
            System.exit(1);
        }
    }

    static void row(LeeVanes x, int sheet, int lane, int... numbers) {
        x.sheet(sheet, lane, numbers.length);
        for (int i = 0; i < numbers.length; i++) {
            x.put(sheet, i, numbers[i]);
        }
    }

    /** Lays a text in sheet 3 as bytes and takes it. */
    static int take(LeeVanes x, String text) {
        row(x, 3, BYTES, text.chars().toArray());
        return x.town(3, BYTES, 0, text.length());
    }

    static LeeVanes townOf(String text) {
        LeeVanes x = new LeeVanes();
        if (take(x, text) < 0) {
            throw new IllegalArgumentException("no town: " + text);
        }
        return x;
    }

    /** A town by a law, its vanes turned so. */
    static LeeVanes townBy(String text, int law, int... vanes) {
        LeeVanes x = townOf(text);
        x.law(law);
        turnAll(x, vanes);
        return x;
    }

    /** Turns the vanes of all works. */
    static void turnAll(LeeVanes x, int... vanes) {
        for (int w = 0; w < vanes.length; w++) {
            x.turn(w, vanes[w]);
        }
    }
}
