/** What the tests share: laying rows and texts in sheets, comparing, counting what is wrong. */
final class Checks {
    static final int BYTES = 0, SHORTS = 1, INTS = 2;
    static final int NULL = -11, CAST = -12, INDEX = -13, SIZE = -14;
    static final int MIN = Integer.MIN_VALUE, MAX = Integer.MAX_VALUE;

    private int wrong = 0;
    private int checked = 0;

    void due(String call, long got, long want) {
        checked++;
        if (got != want) {
            wrong++;
            System.out.println(call + " answered " + got + ", due is " + want);
        }
    }

    /** Ends the test; the exit code tells whether anything was wrong. */
    void end() {
        System.out.println(checked + " answers, " + wrong + " not as due");
        if (wrong != 0) {
            System.exit(1);
        }
    }

    static void row(LeeVanes x, int sheet, int lane, int... numbers) {
        x.sheet(sheet, lane, numbers.length);
        for (int i = 0; i < numbers.length; i++) {
            x.put(sheet, i, numbers[i]);
        }
    }

    /** Lays a text in sheet 3 as bytes and takes it. */
    static int take(LeeVanes x, String text) {
        int[] codes = new int[text.length()];
        for (int i = 0; i < codes.length; i++) {
            codes[i] = text.charAt(i);
        }
        row(x, 3, BYTES, codes);
        return x.town(3, BYTES, 0, codes.length);
    }

    static LeeVanes townOf(String text) {
        LeeVanes x = new LeeVanes();
        if (take(x, text) < 0) {
            throw new IllegalArgumentException("no town: " + text);
        }
        return x;
    }

    /** Turns the vanes of all works. */
    static void turnAll(LeeVanes x, int... vanes) {
        for (int w = 0; w < vanes.length; w++) {
            x.turn(w, vanes[w]);
        }
    }
}
