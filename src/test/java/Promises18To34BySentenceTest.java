/** Promises 18 to 34, sentence by sentence: a test of its own for each that names a boundary. */
public final class Promises18To34BySentenceTest {
    private static final String SMALL = Checks.SMALL;
    private static final String[] NO_WORK = Checks.NO_WORK, NO_WARD = Checks.NO_WARD, NO_CELL = Checks.NO_CELL;
    private static final String[] NO_SHEET = Checks.NO_SHEET, NO_LANE = Checks.NO_LANE;

    public static void main(String[] args) {
        ReadAlong doc = new ReadAlong("## Promise 18:", "## Not promised");
        readings(doc);
        settingsLawsPowers(doc);
        odds(doc);
        sheets(doc);
        putAndCell(doc);
        copy(doc);
        parts(doc);
        faults(doc);
        many(doc);
        doc.end();
    }

    // ---- 18 to 23

    private static void readings(ReadAlong doc) {
        doc.promise("18: reading", "int reading(int c, int v)");
        doc.edge("A READING: its number.", c -> c.run(Checks.townOf(SMALL), "reading(0, 0) 0; reading(5, 99) 1; "
            + "reading(0, 0) 2; many(4) 3; back(2) 1; reading(3, 2) 1; many(4) 2"));
        doc.edge("UNKNOWN: CELL;", c -> {
            c.runEach(SMALL, "reading(?, 0) UNKNOWN; reading(?, 100) UNKNOWN; many(4) 0; reading(5, 0) 0", NO_CELL);
            c.runEach("", "reading(?, 0) UNKNOWN; many(4) 0", "-1", "0", "1");
        });
        doc.edge("OUTSIDE: v (0 .. 99);", c -> {
            c.runEach(SMALL, "reading(0, ?) OUTSIDE; many(4) 0; reading(0, 0) 0; reading(0, 99) 1", "-1", "100", "MIN", "MAX");
            c.runEach(SMALL, "reading(0, 0) 0; reading(0, 0) 1; reading(0, 0) 2; reading(0, 0) 3; reading(0, 0) 4; "
                + "reading(0, 0) 5; reading(0, 0) 6; reading(0, 0) 7; reading(0, ?) OUTSIDE", "-1", "100");
        });
        doc.edge("FULL.", c -> {
            LeeVanes x = Checks.townOf(SMALL);
            c.run(x, "reading(0, 4) 0; reading(1, 0) 1; reading(2, 0) 2; reading(3, 2) 3; reading(4, 0) 4; reading(5, 0) 5; "
                + "reading(0, 4) 6; laws() 1");
            c.run(x, "reading(1, 0) 7; reading(0, 99) FULL; many(4) 8; laws() 1; back(1) 7; reading(0, 99) 7; laws() 0; "
                + "reading(0, 4) FULL");
        });
        doc.promise("19: back", "int back(int k)");
        doc.edge("The last k READINGS (0 .. as many as there are) are taken back: how many are left.", c -> {
            LeeVanes x = Checks.townOf(SMALL);
            c.run(x, "back(0) 0; reading(0, 4) 0; reading(1, 9) 1; reading(0, 4) 2; laws() 0; back(0) 3; many(4) 3; back(1) 2; "
                + "laws() 0; back(1) 1");
            c.run(x, "laws() 1; back(1) 0; laws() 7; reading(1, 9) 0; reading(0, 4) 1; laws() 0; back(1) 1; laws() 0; "
                + "back(1) 0; laws() 7");
            c.run(x, "reading(0, 4) 0; reading(1, 9) 1; reading(0, 4) 2; back(2) 1; laws() 1; reading(0, 4) 1; back(2) 0; "
                + "many(4) 0");
            for (int k = 0; k < 8; k++) {
                c.due("reading " + k, x.reading(0, 9), k);
            }
            c.run(x, "back(8) 0; laws() 7; back(0) 0");
        });
        doc.edge("OUTSIDE.", c -> {
            c.runEach(SMALL, "back(?) OUTSIDE", "-1", "1", "8", "MIN", "MAX");
            c.runEach(SMALL, "reading(0, 0) 0; reading(0, 0) 1; back(?) OUTSIDE; many(4) 2; back(2) 0; back(1) OUTSIDE",
                "-1", "3", "8", "MIN", "MAX");
            c.runEach("", "back(?) OUTSIDE", "-1", "1", "MIN", "MAX");
        });
    }

    private static void settingsLawsPowers(ReadAlong doc) {
        doc.promise("20: settings", "int settings(int w)");
        doc.edge("SETTINGS: how many (w -1), the VANE of WORK w in the first;", c -> {
            LeeVanes x = Checks.townBy("t13;x4.x2", 0, 2, 2);
            c.run(x, "settings(-1) 16; settings(0) 0; settings(1) 0; reading(1, 4) 0; settings(-1) 1; settings(0) 1; "
                + "settings(1) 3; ofWork(0, 2) 2");
            c.run(x, "law(1) 0; settings(-1) 0; back(1) 0; reading(1, 1) 0; settings(-1) 3; settings(0) 0; settings(1) 3; "
                + "ofWork(1, 2) 2");
            c.run(Checks.townOf("t12;.."), "settings(-1) 1");
            c.run(Checks.townOf("t15;x1x1x1x1."), "settings(-1) 256; settings(0) 0; settings(3) 0");
        });
        doc.edge("NONE: there are none, no such WORK.", c -> {
            c.runEach(SMALL, "settings(?) NONE; reading(0, 99) 0; settings(?) NONE; settings(-1) 0; settings(0) NONE; "
                + "settings(1) NONE", "2", "3", "4", "MAX");
            c.runEach("t12;w1.", "settings(?) NONE; settings(-1) 1", "0", "1", "MAX");
        });
        doc.edge("UNKNOWN: w below -1;", c -> {
            c.runEach(SMALL, "settings(?) UNKNOWN; reading(0, 99) 0; settings(?) UNKNOWN", "-2", "-9", "MIN");
            c.runEach("", "settings(?) UNKNOWN", "-2", "MIN");
        });
        doc.edge("STATE: there is no TOWN.", c -> c.runEach("", "settings(?) STATE", "-1", "0", "4", "MAX"));
        doc.promise("21: laws", "int laws()");
        doc.edge("LAWS, as a set.", c -> {
            LeeVanes x = Checks.townBy("t13;x3.x3", 1, 1, 3);
            c.run(x, "laws() 7; reading(1, 4) 0; laws() 1; back(1) 0; reading(1, 2) 0; laws() 2; back(1) 0; reading(1, 0) 0; "
                + "laws() 4; reading(0, 3) 1");
            c.run(x, "laws() 0; many(3) 1; smell(1) 2");
            c.run(Checks.townOf("t12;.."), "laws() 7; reading(0, 0) 0; laws() 7; reading(0, 1) 1; laws() 0");
        });
        doc.edge("STATE: there is no TOWN.", c -> c.run(new LeeVanes(), "laws() STATE"));
        doc.promise("22: powers", "int powers(int w)");
        doc.edge("POWERS, as a set.", c -> {
            LeeVanes x = Checks.townBy("t12;x5w1", 0, 1);
            c.run(x, "powers(0) 1022; reading(1, 8) 0; powers(0) 512; back(1) 0; reading(1, 9) 0; powers(0) 0; back(1) 0; "
                + "reading(1, 0) 0; powers(0) 2");
            c.run(x, "ofWork(0, 1) 5; minds(0) 4; turn(0, 0) 1; powers(0) 1022; reading(0, 5) 1; powers(0) 32");
        });
        doc.edge("UNKNOWN.", c -> {
            c.runEach(SMALL, "powers(?) UNKNOWN; powers(1) 1022", NO_WORK);
            c.runEach("", "powers(?) UNKNOWN", "-1", "0");
        });
    }

    private static void odds(ReadAlong doc) {
        doc.promise("23: odds", "long odds(int c, int v, int which)");
        doc.edge("ODDS (which 0 the upper, 1 the lower number).", c -> {
            c.run(Checks.townOf("t14;x5..x3"), "odds(2, 1, 0) 7; odds(2, 1, 1) 16; odds(2, 3, 0) 1; odds(2, 3, 1) 4; "
                + "odds(2, 0, 0) 1; odds(2, 0, 1) 1; odds(2, 99, 0) 0; odds(2, 99, 1) 1; odds(0, 5, 0) 1; odds(0, 5, 1) 1; "
                + "odds(0, 6, 0) 0");
        });
        doc.edge("LOST: UNKNOWN: CELL;", c -> {
            c.runEach(SMALL, "odds(?, 0, 0) LOST; odds(?, 0, 1) LOST; odds(5, 0, 0) 1", NO_CELL);
            c.runEach("", "odds(?, 0, 0) LOST", "-1", "0");
        });
        doc.edge("OUTSIDE: v (0 .. 99), which.", c -> {
            c.runEach(SMALL, "odds(0, ?, 0) LOST; odds(0, ?, 1) LOST; odds(0, 0, 0) 1; odds(0, 99, 0) 0",
                "-1", "100", "MIN", "MAX");
            c.runEach(SMALL, "odds(0, 0, ?) LOST; odds(0, 99, ?) LOST", "-1", "2", "MIN", "MAX");
            c.run(Checks.townOf(SMALL), "put(0, 0, 0) NULL; odds(0, 100, 0) LOST; odds(6, 0, 0) LOST; odds(0, 0, 2) LOST; "
                + "fault() 1");
        });
    }

    // ---- 24 to 28

    private static void sheets(ReadAlong doc) {
        doc.promise("24: sheet", "int sheet(int k, int lane, int n)");
        doc.edge("A SHEET gets a new row: 1.", c -> {
            c.runEach("", "sheet(?, 0, 0) 1; put(?, 0, 1) INDEX; sheet(?, 1, 60) 1; put(?, 59, 7) 1; cell(?, 59, 1) 7; "
                + "sheet(?, 1, 60) 1; cell(?, 59, 1) 0; sheet(?, 2, 1) 1; cell(?, 0, 1) LOST; fault() 2; cell(?, 0, 2) 0; "
                + "put(?, 1, 1) INDEX", "0", "1", "2", "3");
            c.run(new LeeVanes(), "sheet(0, 2, 2) 1; sheet(1, 2, 2) 1; put(0, 1, 5) 1; cell(1, 1, 2) 0; sheet(1, 2, 2) 1; "
                + "cell(0, 1, 2) 5; fault() 0");
        });
        doc.edge("UNKNOWN;", c -> c.runEach("", "sheet(?, 0, 1) UNKNOWN; sheet(?, 3, 61) UNKNOWN; sheet(?, 3, -1) UNKNOWN; "
            + "fault() 0", NO_SHEET));
        doc.edge("OUTSIDE: lane, n above 60;", c -> {
            c.runEach("", "sheet(0, ?, 1) OUTSIDE; sheet(0, ?, -1) OUTSIDE; sheet(0, ?, 61) OUTSIDE; fault() 0; lose(0) 0",
                NO_LANE);
            c.runEach("", "sheet(0, 0, ?) OUTSIDE; sheet(0, 2, ?) OUTSIDE; fault() 0; lose(0) 0; sheet(0, 0, 60) 1",
                "61", "62", "MAX");
        });
        doc.edge("SIZE.", c -> {
            c.runEach("", "sheet(0, 0, ?) SIZE; fault() 4; lose(0) 0; sheet(0, 1, 1) 1; put(0, 0, 9) 1; sheet(0, 2, ?) SIZE; "
                + "fault() 4; cell(0, 0, 1) 9",
                "-1", "-60", "MIN");
            c.run(new LeeVanes(), "sheet(0, 0, 0) 1; fault() 0");
        });
        doc.promise("25: lose", "int lose(int k)");
        doc.edge("A SHEET has nothing: 1;", c -> c.runEach("", "sheet(?, 0, 0) 1; lose(?) 1; put(?, 0, 0) NULL; "
            + "sheet(?, 2, 60) 1; put(?, 5, 5) 1; lose(?) 1; cell(?, 5, 2) LOST; fault() 1; sheet(?, 2, 60) 1; cell(?, 5, 2) 0",
            "0", "1", "2", "3"));
        doc.edge("0: it had nothing.", c -> c.runEach("", "lose(?) 0; sheet(?, 1, 1) 1; lose(?) 1; lose(?) 0; lose(?) 0; "
            + "sheet(?, 1, 1) 1; lose(?) 1",
            "0", "1", "2", "3"));
        doc.edge("UNKNOWN.", c -> c.runEach("", "sheet(0, 0, 0) 1; sheet(3, 0, 0) 1; lose(?) UNKNOWN; lose(0) 1; lose(3) 1",
            NO_SHEET));
    }

    private static void putAndCell(ReadAlong doc) {
        doc.promise("26: put", "int put(int k, int i, int v)");
        doc.edge("Cell i of a SHEET becomes v: 1.", c -> {
            c.run(new LeeVanes(), "sheet(1, 2, 3) 1; put(1, 0, MIN) 1; put(1, 2, MAX) 1; cell(1, 0, 2) MIN; cell(1, 1, 2) 0; "
                + "cell(1, 2, 2) MAX; put(1, 2, 0) 1; cell(1, 2, 2) 0; fault() 0");
            c.run(new LeeVanes(), "sheet(1, 0, 1) 1; put(1, 0, 128) 1; cell(1, 0, 0) -128; sheet(1, 1, 1) 1; "
                + "put(1, 0, 32768) 1; cell(1, 0, 1) -32768");
        });
        doc.edge("UNKNOWN;", c -> c.runEach("", "put(?, 0, 1) UNKNOWN; put(?, -1, 1) UNKNOWN; fault() 0", NO_SHEET));
        doc.edge("NULL;", c -> c.runEach("", "put(2, ?, 1) NULL; fault() 1; sheet(2, 0, 0) 1; lose(2) 1; put(2, ?, 1) NULL",
            "0", "-1", "60", "MIN", "MAX"));
        doc.edge("INDEX.", c -> c.runEach("", "sheet(2, 0, 4) 1; put(2, 3, 6) 1; put(2, ?, 1) INDEX; fault() 3; "
            + "cell(2, 3, 0) 6; sheet(2, 0, 0) 1; put(2, 0, 1) INDEX; put(2, ?, 1) INDEX", "-1", "4", "59", "60", "MIN", "MAX"));
        doc.promise("27: cell", "long cell(int k, int i, int lane)");
        doc.edge("Cell i of what a SHEET has, taken as a row of a LANE.", c -> {
            c.runEach("", "sheet(0, ?, 60) 1; put(0, 0, 5) 1; put(0, 59, -6) 1; cell(0, 0, ?) 5; cell(0, 1, ?) 0; "
                + "cell(0, 59, ?) -6; fault() 0", "0", "1", "2");
            c.run(new LeeVanes(), "sheet(0, 2, 1) 1; put(0, 0, MIN) 1; cell(0, 0, 2) MIN; fault() 0");
        });
        doc.edge("LOST: UNKNOWN, OUTSIDE: lane;", c -> {
            c.runEach("", "put(0, 0, 0) NULL; cell(?, 0, 0) LOST; fault() 0; put(0, 0, 0) NULL; cell(?, -1, 3) LOST; fault() 0",
                NO_SHEET);
            c.runEach("", "cell(0, 0, ?) LOST; fault() 0; sheet(0, 0, 1) 1; put(0, 1, 0) INDEX; cell(0, 0, ?) LOST; fault() 0; "
                + "cell(0, 1, ?) LOST; fault() 0", NO_LANE);
        });
        doc.edge("FAULTS CAST (nothing is no CAST), NULL, INDEX.", c -> {
            c.runEach("", "cell(0, 0, ?) LOST; fault() 1; cell(0, -1, ?) LOST; fault() 1; sheet(0, ?, 2) 1; "
                + "cell(0, 2, ?) LOST; fault() 3; cell(0, -1, ?) LOST; fault() 3; cell(0, MIN, ?) LOST; fault() 3; "
                + "cell(0, MAX, ?) LOST; fault() 3; cell(0, 1, ?) 0; fault() 0; sheet(0, ?, 0) 1; cell(0, 0, ?) LOST; "
                + "fault() 3; lose(0) 1; cell(0, 0, ?) LOST; fault() 1", "0", "1", "2");
            c.run(new LeeVanes(), "sheet(0, 0, 2) 1; cell(0, 0, 1) LOST; fault() 2; cell(0, 2, 2) LOST; fault() 2; "
                + "sheet(0, 1, 2) 1; cell(0, 0, 0) LOST; fault() 2; cell(0, -1, 2) LOST; fault() 2; sheet(0, 2, 0) 1; "
                + "cell(0, 0, 0) LOST; fault() 2; cell(0, 0, 1) LOST; fault() 2");
        });
    }

    private static void copy(ReadAlong doc) {
        doc.promise("28: copy", "int copy(int k, int i, int other, int j, int n)");
        doc.edge("n cells of a SHEET from i on go to another one", c -> {
            LeeVanes x = rows();
            c.run(x, "copy(0, 1, 1, 0, 3) 3; fault() 0");
            row(c, x, 1, 2, 3, 4, 0, 0);
            c.run(x, "copy(0, 4, 1, 4, 1) 1; copy(0, 5, 1, 0, 0) 0; copy(0, 0, 1, 0, 0) 0");
            row(c, x, 1, 2, 3, 4, 0, 5);
            row(c, x, 0, 1, 2, 3, 4, 5);
            c.runEach("", "sheet(0, ?, 60) 1; sheet(3, ?, 60) 1; put(0, 59, -7) 1; put(0, 0, 9) 1; copy(0, 0, 3, 0, 60) 60; "
                + "cell(3, 59, ?) -7; cell(3, 0, ?) 9",
                "0", "1", "2");
        });
        doc.edge("(perhaps the same)", c -> {
            LeeVanes x = rows();
            c.run(x, "copy(0, 0, 0, 3, 2) 2");
            row(c, x, 0, 1, 2, 3, 1, 2);
            c.run(x, "copy(0, 0, 0, 0, 5) 5; copy(0, 5, 0, 5, 0) 0");
            row(c, x, 0, 1, 2, 3, 1, 2);
        });
        doc.edge("from j on, as they were: n.", c -> {
            LeeVanes x = rows();
            c.run(x, "copy(0, 0, 1, 2, 3) 3; copy(0, 0, 1, 5, 0) 0");
            row(c, x, 1, 0, 0, 1, 2, 3);
            // Where they overlap they are what they were ahead of the call.
            c.run(x, "copy(0, 0, 0, 1, 4) 4");
            row(c, x, 0, 1, 1, 2, 3, 4);
            c.run(x, "copy(0, 1, 0, 0, 4) 4");
            row(c, x, 0, 1, 2, 3, 4, 4);
            c.run(x, "copy(0, 0, 0, 2, 3) 3");
            row(c, x, 0, 1, 2, 1, 2, 3);
            c.run(new LeeVanes(), "sheet(0, 2, 2) 1; put(0, 0, MIN) 1; put(0, 1, MAX) 1; copy(0, 0, 0, 1, 1) 1; "
                + "cell(0, 0, 2) MIN; cell(0, 1, 2) MIN");
        });
        doc.edge("UNKNOWN;", c -> c.runEach("", "copy(?, 0, 0, 0, 0) UNKNOWN; copy(0, 0, ?, 0, 0) UNKNOWN; "
            + "copy(?, -1, ?, -1, -1) UNKNOWN; fault() 0; sheet(0, 0, 1) 1; copy(0, 0, ?, 0, 1) UNKNOWN; "
            + "copy(?, 0, 0, 0, 1) UNKNOWN", NO_SHEET));
        doc.edge("FAULTS NULL (the first, the other),", c -> {
            c.run(rows(), "copy(3, 0, 0, 0, 0) NULL; fault() 1; copy(0, 0, 3, 0, 0) NULL; fault() 1; "
                + "copy(3, -1, 0, 0, 0) NULL; copy(0, -1, 3, 0, -1) NULL; copy(3, 0, 3, 0, 0) NULL; copy(2, 0, 3, 0, 1) NULL; "
                + "lose(0) 1; copy(0, 0, 1, 0, 1) NULL; copy(1, 0, 0, 0, 1) NULL");
        });
        doc.edge("CAST (unlike LANES),", c -> {
            c.run(rows(), "copy(0, 0, 2, 0, 1) CAST; fault() 2; copy(2, 0, 0, 0, 1) CAST; copy(0, -1, 2, 0, 0) CAST; "
                + "copy(0, 0, 2, 9, 0) CAST; copy(0, 0, 2, 0, 0) CAST; copy(0, 0, 2, 0, -1) CAST; cell(0, 0, 0) 1; "
                + "cell(2, 0, 1) 6");
            c.run(new LeeVanes(), "sheet(0, 1, 1) 1; sheet(1, 2, 1) 1; copy(0, 0, 1, 0, 1) CAST; copy(1, 0, 0, 0, 1) CAST; "
                + "sheet(2, 0, 1) 1; copy(1, 0, 2, 0, 1) CAST; sheet(3, 2, 1) 1; copy(1, 0, 3, 0, 1) 1");
        });
        doc.edge("INDEX: i, j, n below 0 or beyond.", Promises18To34BySentenceTest::copyIndex);
    }

    private static void copyIndex(Checks c) {
        String[] wrong = {"-1, 1, 0, 1", "0, 1, -1, 1", "0, 1, 0, -1", "6, 1, 0, 0", "0, 1, 6, 0", "-1, 1, 0, 0", "0, 1, -1, 0",
            "5, 1, 0, 1", "0, 1, 5, 1", "1, 1, 0, 5", "0, 1, 1, 5", "0, 1, 0, 6", "MAX, 1, 0, 0", "0, 1, MAX, 0", "0, 1, 0, MAX",
            "MIN, 1, 0, 0", "0, 1, MIN, 0", "0, 1, 0, MIN", "MAX, 1, 0, MAX", "0, 1, MAX, MAX", "1, 1, 1, MAX", "5, 1, 5, MAX",
            "MIN, 1, MIN, MIN", "-1, 1, -1, 2", "6, 0, 0, 0", "0, 0, 6, 0", "1, 0, 0, 5"};
        for (String numbers : wrong) {
            LeeVanes x = rows();
            c.run(x, "copy(0, " + numbers + ") INDEX; fault() 3");
            row(c, x, 0, 1, 2, 3, 4, 5);
            row(c, x, 1, 0, 0, 0, 0, 0);
        }
        LeeVanes x = rows();
        c.run(x, "copy(0, 5, 1, 5, 0) 0; fault() 0; copy(0, 4, 1, 0, 1) 1; copy(0, 0, 1, 4, 1) 1; copy(0, 0, 1, 0, 5) 5; "
            + "copy(0, 5, 1, 0, 0) 0");
        c.run(x, "sheet(1, 0, 2) 1; copy(0, 0, 1, 0, 3) INDEX; copy(1, 0, 0, 0, 3) INDEX; copy(0, 3, 1, 0, 2) 2; "
            + "copy(1, 0, 0, 3, 2) 2; copy(0, 0, 1, 3, 0) INDEX");
        c.run(x, "sheet(1, 0, 0) 1; copy(0, 0, 1, 0, 0) 0; copy(1, 0, 0, 5, 0) 0; copy(1, 0, 0, 0, 1) INDEX; "
            + "copy(1, 1, 0, 0, 0) INDEX");
    }

    /** Sheet 0: bytes 1 .. 5; sheet 1: five bytes, all 0; sheet 2: a short 6; sheet 3: nothing. */
    private static LeeVanes rows() {
        LeeVanes x = new LeeVanes();
        Checks.row(x, 0, Checks.BYTES, 1, 2, 3, 4, 5);
        Checks.row(x, 1, Checks.BYTES, 0, 0, 0, 0, 0);
        Checks.row(x, 2, Checks.SHORTS, 6);
        return x;
    }

    private static void row(Checks c, LeeVanes x, int sheet, int... want) {
        for (int i = 0; i < want.length; i++) {
            c.due("cell " + i + " of sheet " + sheet, x.cell(sheet, i, 0), want[i]);
        }
    }

    // ---- 29 to 34

    private static void parts(ReadAlong doc) {
        doc.promise("29: tell", "int tell(int k)");
        doc.edge("TELLING of a WARD.", c -> c.run(Checks.townOf(SMALL), "tell(0) 2; trace() 1; tell(1) 101; trace() 1024; "
            + "tell(2) 102; trace() 945776831"));
        doc.edge("UNKNOWN.", c -> c.runEach(SMALL, "tell(?) UNKNOWN; trace() 0; tell(0) 2; tell(?) UNKNOWN; trace() 1", NO_WARD));
        doc.promise("30: woo", "int woo(int k)");
        doc.edge("How it is WOOED.", c -> c.run(Checks.townOf(SMALL), "woo(0) 0; trace() 4; woo(1) 1; trace() 128; woo(2) 60; "
            + "trace() 3973"));
        doc.edge("UNKNOWN.", c -> c.runEach(SMALL, "woo(?) UNKNOWN; trace() 0; woo(2) 60; woo(?) UNKNOWN; trace() 5", NO_WARD));
        doc.promise("31: as", "int as(int k, int kind)");
        doc.edge("A WARD, taken as one of a kind: 1.", c -> c.run(Checks.townOf(SMALL), "as(0, 0) 1; as(1, 0) 1; as(1, 1) 1; "
            + "as(2, 0) 1; as(2, 1) 1; as(2, 2) 1; fault() 0; trace() 0"));
        doc.edge("UNKNOWN;", c -> c.runEach(SMALL, "as(?, 0) UNKNOWN; as(?, 2) UNKNOWN; as(?, 3) UNKNOWN; as(0, 1) CAST; "
            + "as(?, 1) UNKNOWN; fault() 0", NO_WARD));
        doc.edge("OUTSIDE;", c -> c.runEach(SMALL, "as(0, ?) OUTSIDE; as(2, ?) OUTSIDE; as(0, 2) CAST; as(0, ?) OUTSIDE; "
            + "fault() 0", "-1", "3", "MIN", "MAX"));
        doc.edge("CAST: it is none.", c -> c.run(Checks.townOf(SMALL), "as(0, 1) CAST; fault() 2; as(0, 2) CAST; fault() 2; "
            + "as(1, 2) CAST; fault() 2; as(1, 1) 1; fault() 0; trace() 0"));
        doc.promise("32: trace", "int trace()");
        doc.edge("TRACE.", c -> {
            c.run(new LeeVanes(), "trace() 0; tell(0) UNKNOWN; trace() 0");
            c.run(Checks.townOf(SMALL), "tell(0) 2; trace() 1; trace() 1; woo(0) 0; trace() 35; town(3, 0, 0, 16) 3; "
                + "trace() 35; town(3, 0, 0, 1) -101; trace() 35; vote(0, 0) 0; bribe(0, 1) 3; year() 0; as(0, 1) CAST; "
                + "trace() 35");
        });
    }

    private static void faults(ReadAlong doc) {
        doc.promise("33: fault", "int fault()");
        doc.edge("The FAULT of the latest call that names one:", Promises18To34BySentenceTest::latest);
        doc.edge("0: it came to none, or was refused", c -> {
            String good = "town(3, 0, 0, 16) 3; town(3, 0, 0, 15) -115; told(0, 1, 0, 2) 6; sheet(2, 0, 1) 1; put(0, 0, 1) 1; "
                + "cell(0, 0, 1) 1; copy(0, 0, 0, 0, 1) 1; as(0, 0) 1";
            String refused = "town(4, 0, 0, 0) UNKNOWN; town(0, 3, 0, 0) OUTSIDE; told(4, 0, 0, 0) UNKNOWN; "
                + "told(0, 3, 0, 0) OUTSIDE; told(0, 1, 0, 1) OUTSIDE; told(0, 1, 1, 2) OUTSIDE; sheet(4, 0, 0) UNKNOWN; "
                + "sheet(0, 3, 0) OUTSIDE; sheet(0, 0, 61) OUTSIDE; put(4, 0, 0) UNKNOWN; cell(4, 0, 0) LOST; "
                + "cell(0, 0, 3) LOST; copy(4, 0, 0, 0, 0) UNKNOWN; copy(0, 0, 4, 0, 0) UNKNOWN; as(3, 0) UNKNOWN; "
                + "as(0, 3) OUTSIDE";
            for (String call : (good + "; " + refused).split("; ")) {
                LeeVanes x = Checks.townOf(SMALL);
                Checks.row(x, 0, Checks.SHORTS, 1, 0, 4);
                c.run(x, "as(0, 1) CAST; fault() 2", call, "fault() 0");
            }
            c.run(new LeeVanes(), "put(0, 0, 0) NULL; told(0, 0, 0, 0) STATE; fault() 0");
        });
        doc.edge("(0 ahead of any).", c -> {
            c.run(new LeeVanes(), "fault() 0; fault() 0; lose(4) UNKNOWN; law(3) OUTSIDE; fault() 0");
        });
    }

    private static void latest(Checks c) {
        LeeVanes x = Checks.townOf(SMALL);
        Checks.row(x, 0, Checks.SHORTS, 1, 0);
        c.run(x, "town(1, 0, 0, 0) NULL; fault() 1; town(0, 0, 0, 0) CAST; fault() 2; town(0, 1, 3, 0) INDEX; fault() 3; "
            + "town(0, 1, 0, -1) SIZE; fault() 4");
        c.run(x, "told(1, 0, 0, 0) NULL; fault() 1; told(0, 0, 0, 0) CAST; fault() 2; told(0, 1, 3, 0) INDEX; fault() 3; "
            + "told(0, 1, 0, -1) SIZE; fault() 4");
        c.run(x, "put(1, 0, 0) NULL; fault() 1; put(0, 2, 0) INDEX; fault() 3; sheet(0, 0, -1) SIZE; fault() 4; "
            + "cell(1, 0, 0) LOST; fault() 1");
        c.run(x, "cell(0, 0, 0) LOST; fault() 2; cell(0, 2, 1) LOST; fault() 3; copy(1, 0, 0, 0, 0) NULL; fault() 1; "
            + "copy(0, 0, 3, 0, 0) CAST; fault() 2");
        c.run(x, "copy(0, 0, 0, 0, 3) INDEX; fault() 3; as(0, 1) CAST; fault() 2; fault() 2");
        // All that names none leaves it, whether it is refused or not.
        c.run(x, "ofWard(0, 0) 0; ofWard(3, 0) UNKNOWN; ofWork(0, 0) 0; ofWork(0, 3) OUTSIDE; law(0) 0; law(3) OUTSIDE; "
            + "turn(0, 0) 0; turn(2, 0) UNKNOWN; fault() 2");
        c.run(x, "smell(0) 4; smell(6) UNKNOWN; minds(0) 0; minds(3) UNKNOWN; burden() 0; vote(0, 0) 0; vote(0, 2) UNKNOWN; "
            + "ballot(0) 0; year() 0; round(0) 0; fault() 2");
        c.run(x, "round(2) OUTSIDE; best(-1) 0; best(-2) UNKNOWN; best(2) NONE; calm(-1) 0; calm(-2) UNKNOWN; bribe(0, 0) 0; "
            + "bribe(0, 4) OUTSIDE; fault() 2");
        c.run(x, "reading(0, 0) 0; reading(0, 100) OUTSIDE; back(1) 0; back(1) OUTSIDE; settings(-1) 16; settings(-2) UNKNOWN; "
            + "laws() 7; powers(0) 1022; fault() 2");
        c.run(x, "powers(2) UNKNOWN; odds(0, 0, 0) 1; odds(6, 0, 0) LOST; lose(1) 0; lose(0) 1; lose(4) UNKNOWN; tell(0) 2; "
            + "tell(3) UNKNOWN; woo(0) 0; woo(3) UNKNOWN; fault() 2");
        c.run(x, "trace() 35; many(0) 6; many(5) OUTSIDE; fault() 2");
    }

    private static void many(ReadAlong doc) {
        doc.promise("34: many", "int many(int what)");
        doc.edge("How many: 0 CELLS, 1 WORKS, 2 WARDS, 3 the LAW, 4 READINGS", c -> {
            c.run(Checks.townBy("t43;.w2.;.r2.;x9x4f4;.w9.", 1), "reading(0, 0) 0; reading(0, 0) 1; reading(0, 0) 2; "
                + "many(0) 12; many(1) 2; many(2) 4; many(3) 1; many(4) 3");
            c.run(Checks.townOf("t46;x1x1x1x1w1w1;w1w1w1w1..;......;......"), "many(0) 24; many(1) 4; many(2) 6; many(3) 0; "
                + "many(4) 0");
            c.run(Checks.townOf("t12;.."), "many(0) 2; many(1) 0; many(2) 0; many(3) 0; many(4) 0");
        });
        doc.edge("(0 all without a TOWN).", c -> {
            c.run(new LeeVanes(), "many(0) 0; many(1) 0; many(2) 0; many(3) 0; many(4) 0");
            LeeVanes x = new LeeVanes();
            c.due("a text that does not end", Checks.take(x, "t22;x3w2;w1x"), -112);
            c.run(x, "law(1) STATE; reading(0, 0) UNKNOWN; many(0) 0; many(1) 0; many(2) 0; many(3) 0; many(4) 0");
        });
        doc.edge("OUTSIDE.", c -> {
            c.runEach(SMALL, "many(?) OUTSIDE", "-1", "5", "MIN", "MAX");
            c.runEach("", "many(?) OUTSIDE", "-1", "5", "MIN", "MAX");
        });
    }
}
