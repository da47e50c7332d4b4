/** Promises 1 to 17, sentence by sentence: a test of its own for each that names a boundary. */
public final class Promises1To17BySentenceTest {
    private static final String SMALL = Checks.SMALL;
    private static final String[] NO_WORK = Checks.NO_WORK, NO_WARD = Checks.NO_WARD, NO_CELL = Checks.NO_CELL;
    private static final String[] NO_SHEET = Checks.NO_SHEET, NO_LANE = Checks.NO_LANE;

    public static void main(String[] args) {
        ReadAlong doc = new ReadAlong("## Promise 1:", "## Promise 18:");
        newObject(doc);
        town(doc);
        wardsAndWorks(doc);
        lawAndTurn(doc);
        smells(doc);
        told(doc);
        votes(doc);
        rounds(doc);
        bestAndCalm(doc);
        bribe(doc);
        doc.end();
    }

    private static void newObject(ReadAlong doc) {
        doc.promise("1: A new object", "LeeVanes()");
        doc.edge("No TOWN (no CELLS, WORKS, WARDS),", c -> {
            c.run(new LeeVanes(), "many(0) 0; many(1) 0; many(2) 0; many(3) 0; many(4) 0; burden() STATE; fault() 0; trace() 0");
            c.runEach("", "ofWard(?, 0) UNKNOWN; ofWork(?, 0) UNKNOWN; turn(?, 0) UNKNOWN; smell(?) UNKNOWN; minds(?) UNKNOWN; "
                + "vote(?, ?) UNKNOWN; ballot(?) UNKNOWN; bribe(?, 0) UNKNOWN; reading(?, 0) UNKNOWN; powers(?) UNKNOWN; "
                + "odds(?, 0, 0) LOST; tell(?) UNKNOWN; woo(?) UNKNOWN; as(?, 0) UNKNOWN; trace() 0", "-1", "0", "1");
        });
        doc.edge("SHEETS have nothing.", c -> c.runEach("", "lose(?) 0; town(?, 0, 0, 0) NULL; put(?, 0, 0) NULL; "
            + "cell(?, 0, 0) LOST; fault() 1; copy(?, 0, ?, 0, 0) NULL", "0", "1", "2", "3"));
    }

    // ---- 2 town

    private static void town(ReadAlong doc) {
        doc.promise("2: town", "int town(int sheet, int lane, int i, int n)");
        doc.edge("A TOWN by a TEXT of n cells of a SHEET from i on,", c -> {
            LeeVanes x = new LeeVanes();
            c.run(x, "sheet(0, 2, 60) 1; town(0, 2, 0, 0) -100; town(0, 2, 60, 0) -100; town(0, 2, 0, 60) -100");
            lay(x, 0, 52, "t12;x3w2");
            c.run(x, "town(0, 2, 52, 8) 1; town(0, 2, 51, 8) -100; town(0, 2, 51, 9) -100; town(0, 2, 52, 7) -107; "
                + "town(0, 2, 53, 7) -100");
            lay(x, 0, 0, "t12;x9.w");
            c.run(x, "town(0, 2, 0, 7) 0; town(0, 2, 0, 8) -107; many(2) 0; town(0, 2, 52, 8) 1");
        });
        doc.edge("taken as a row of a LANE:", c -> {
            for (int lane = 0; lane < 3; lane++) {
                LeeVanes x = new LeeVanes();
                x.sheet(1, lane, 8);
                lay(x, 1, 0, "t12;x3w2");
                c.due("a row of lane " + lane, x.town(1, lane, 0, 8), 1);
                x.put(1, 4, 'x' + 256);
                c.due("a cut code, lane " + lane, x.town(1, lane, 0, 8), lane == 0 ? 1 : -104);
                x.put(1, 4, 'x' + 65536);
                c.due("a cut code, lane " + lane, x.town(1, lane, 0, 8), lane == 2 ? -104 : 1);
            }
        });
        doc.edge("how many WARDS;", c -> {
            c.text("t12;..", 0);
            c.text("t12;x1x1", 0);
            c.text("t12;x1f1", 1);
            c.text("t23;w1r1f1;w2r2f2", 6);
        });
        doc.edge("-100 less the FIRST FAULT.", c -> {
            c.text("x12;..", -100);
            c.text("t12;x3w", -107);
            c.text("t46;x1x1x1x1w1w1;w1w1w1w1..;......;......;", -141);
        });
        doc.edge("UNKNOWN;", c -> c.runEach(SMALL, "town(?, 0, 0, 16) UNKNOWN; town(?, 3, -1, -1) UNKNOWN; fault() 0; many(2) 3",
            NO_SHEET));
        doc.edge("OUTSIDE: lane;", c -> c.runEach(SMALL, "town(3, ?, 0, 16) OUTSIDE; town(0, ?, -1, -1) OUTSIDE; fault() 0",
            NO_LANE));
        doc.edge("CAST (nothing is no CAST);", c -> {
            c.run(Checks.townOf(SMALL), "town(3, 1, 0, 16) CAST; fault() 2; town(3, 2, 17, -1) CAST; sheet(3, 1, 4) 1; "
                + "town(3, 0, 0, 4) CAST; town(3, 1, 0, 4) -100; sheet(3, 2, 0) 1; town(3, 1, 0, 0) CAST; town(3, 2, 0, 0) -100");
            c.runEach("", "town(0, ?, 0, 0) NULL; sheet(0, 0, 1) 1; lose(0) 1; town(0, ?, 0, 0) NULL; fault() 1", "0", "1", "2");
        });
        doc.edge("NULL;", c -> c.run(Checks.townOf(SMALL), "town(0, 0, 0, 0) NULL; fault() 1; town(0, 0, -1, -1) NULL; "
            + "town(0, 0, 0, MIN) NULL; lose(3) 1; town(3, 0, 0, 16) NULL; many(2) 3"));
        doc.edge("SIZE: n below 0;", c -> {
            c.runEach(SMALL, "town(3, 0, 0, ?) SIZE; fault() 4; town(3, 0, -1, ?) SIZE; town(3, 0, 17, ?) SIZE", "-1", "MIN");
            c.run(Checks.townOf(SMALL), "town(3, 0, 0, 0) -100; fault() 0");
        });
        doc.edge("INDEX;", c -> {
            c.run(Checks.townOf(SMALL), "town(3, 0, 0, 17) INDEX; fault() 3; town(3, 0, 1, 16) INDEX; town(3, 0, 16, 1) INDEX; "
                + "town(3, 0, 17, 0) INDEX; town(3, 0, -1, 16) INDEX; town(3, 0, -1, 0) INDEX; town(3, 0, 16, 0) -100; "
                + "fault() 0; town(3, 0, 0, 16) 3");
            c.runEach(SMALL, "town(3, 0, ?, 0) INDEX; town(3, 0, ?, 1) INDEX; town(3, 0, ?, MAX) INDEX; "
                + "town(3, 0, 1, MAX) INDEX", "MIN", "MAX");
        });
        doc.edge("-100 less it.", c -> c.run(Checks.townOf(SMALL), "town(0, 0, 0, 0) NULL; town(3, 0, 0, 15) -115; fault() 0; "
            + "town(3, 0, 1, 15) -100; town(3, 0, 0, 17) INDEX; many(0) 6; many(1) 2; many(2) 3"));
    }

    private static void lay(LeeVanes x, int sheet, int from, String text) {
        for (int i = 0; i < text.length(); i++) {
            x.put(sheet, from + i, text.charAt(i));
        }
    }

    // ---- 3 to 6

    private static void wardsAndWorks(ReadAlong doc) {
        doc.promise("3: ofWard", "int ofWard(int k, int what)");
        doc.edge("Of a WARD: 0 kind, 1 NOSE, 2 CELL, 3 what it MINDS of a SMELL of 1.", c -> {
            LeeVanes x = Checks.townOf("t23;w1r9f9;f1r1w9");
            c.run(x, "ofWard(0, 0) 0; ofWard(0, 1) 1; ofWard(0, 2) 0; ofWard(0, 3) 1; ofWard(1, 0) 1; ofWard(1, 1) 9; "
                + "ofWard(1, 2) 1; ofWard(1, 3) 10");
            c.run(x, "ofWard(2, 0) 2; ofWard(2, 1) 9; ofWard(2, 2) 2; ofWard(2, 3) 20; ofWard(3, 3) 4; ofWard(4, 3) 2; "
                + "ofWard(5, 3) 9; ofWard(5, 2) 5");
        });
        doc.edge("UNKNOWN;", c -> c.runEach(SMALL, "ofWard(?, 0) UNKNOWN; ofWard(?, 3) UNKNOWN; ofWard(?, 4) UNKNOWN; "
            + "ofWard(?, -1) UNKNOWN", NO_WARD));
        doc.edge("OUTSIDE.", c -> c.runEach(SMALL, "ofWard(0, ?) OUTSIDE; ofWard(2, ?) OUTSIDE; ofWard(3, ?) UNKNOWN",
            "-1", "4", "MIN", "MAX"));
        doc.promise("4: ofWork", "int ofWork(int w, int what)");
        doc.edge("Of a WORK: 0 CELL, 1 how STRONG, 2 its VANE.", c -> {
            LeeVanes x = Checks.townOf("t42;x1.;..;..;.x9");
            c.run(x, "ofWork(0, 0) 0; ofWork(0, 1) 1; ofWork(0, 2) 0; ofWork(1, 0) 7; ofWork(1, 1) 9; ofWork(1, 2) 0; "
                + "turn(1, 3) 0; ofWork(1, 2) 3");
            c.run(x, "ofWork(0, 2) 0; year() 1; ofWork(1, 2) 0; told(3, 0, 0, 2) OUTSIDE; ofWork(1, 2) 0");
        });
        doc.edge("UNKNOWN;", c -> c.runEach(SMALL, "ofWork(?, 0) UNKNOWN; ofWork(?, 2) UNKNOWN; ofWork(?, 3) UNKNOWN; "
            + "ofWork(?, -1) UNKNOWN", NO_WORK));
        doc.edge("OUTSIDE.", c -> c.runEach(SMALL, "ofWork(0, ?) OUTSIDE; ofWork(1, ?) OUTSIDE; ofWork(2, ?) UNKNOWN",
            "-1", "3", "MIN", "MAX"));
    }

    private static void lawAndTurn(ReadAlong doc) {
        doc.promise("5: law", "int law(int v)");
        doc.edge("The LAW becomes v: what it was.", c -> {
            LeeVanes x = Checks.townBy("t13;x3w1x3", 0, 1, 3);
            c.run(x, "law(0) 0; smell(1) 4; law(2) 0; smell(1) 0; many(3) 2; law(1) 2; smell(1) 2; law(1) 1; law(0) 1; "
                + "smell(1) 4; many(3) 0");
        });
        doc.edge("OUTSIDE: 0 .. 2;", c -> c.runEach(SMALL, "law(1) 0; law(?) OUTSIDE; many(3) 1; law(0) 1; law(2) 0; "
            + "law(?) OUTSIDE; many(3) 2",
            "-1", "3", "MIN", "MAX"));
        doc.edge("STATE: there is no TOWN.", c -> {
            c.run(new LeeVanes(), "law(0) STATE; law(1) STATE; law(2) STATE; law(3) OUTSIDE; law(-1) OUTSIDE; many(3) 0");
            c.run(Checks.townOf("t12;.."), "law(2) 0; law(0) 2");
        });
        doc.promise("6: turn", "int turn(int w, int v)");
        doc.edge("The VANE of a WORK becomes v (0 .. 3): what it was.", c -> {
            LeeVanes x = Checks.townOf("t15;x1x1x1x1.");
            c.run(x, "turn(0, 3) 0; turn(3, 1) 0; turn(1, 2) 0; turn(0, 0) 3; turn(3, 3) 1; turn(3, 3) 3; turn(2, 1) 0");
            c.run(x, "ofWork(0, 2) 0; ofWork(1, 2) 2; ofWork(2, 2) 1; ofWork(3, 2) 3");
        });
        doc.edge("UNKNOWN;", c -> c.runEach(SMALL, "turn(?, 0) UNKNOWN; turn(?, 3) UNKNOWN; turn(?, 4) UNKNOWN; "
            + "ofWork(0, 2) 0; ofWork(1, 2) 0", NO_WORK));
        doc.edge("OUTSIDE.", c -> c.runEach(SMALL, "turn(1, 2) 0; turn(1, ?) OUTSIDE; turn(0, ?) OUTSIDE; ofWork(0, 2) 0; "
            + "ofWork(1, 2) 2",
            "-1", "4", "MIN", "MAX"));
    }

    // ---- 7 to 10

    private static void smells(ReadAlong doc) {
        doc.promise("7: smell", "int smell(int c)");
        doc.edge("SMELL of a CELL.", c -> {
            c.run(Checks.townOf(SMALL), "smell(0) 4; smell(1) 0; smell(2) 0; smell(3) 2; smell(4) 0; smell(5) 0");
            c.run(Checks.townBy(SMALL, 0, 1, 1), "smell(0) 3; smell(1) 2; smell(2) 1; smell(3) 2; smell(4) 1; smell(5) 0");
        });
        doc.edge("UNKNOWN.", c -> c.runEach(SMALL, "smell(?) UNKNOWN; smell(5) 0", NO_CELL));
        doc.promise("8: minds", "int minds(int k)");
        doc.edge("What a WARD MINDS.", c -> {
            c.run(Checks.townOf(SMALL), "minds(0) 0; minds(1) 0; minds(2) 0; turn(0, 1) 0; minds(0) 4; minds(1) 2; minds(2) 0");
            c.run(Checks.townBy("t12;x9f9", 1, 1), "minds(0) 160; law(2) 1; minds(0) 160; turn(0, 0) 1; minds(0) 0");
        });
        doc.edge("UNKNOWN.", c -> c.runEach(SMALL, "minds(?) UNKNOWN; minds(2) 0", NO_WARD));
        doc.promise("9: burden", "int burden()");
        doc.edge("BURDEN.", c -> {
            c.run(Checks.townBy(SMALL, 0, 1, 0), "burden() 6; turn(0, 0) 1; burden() 0; turn(0, 1) 0; law(2) 0; burden() 6");
            c.run(Checks.townOf("t12;.."), "burden() 0");
            c.run(Checks.townBy("t12;x9x9", 0, 1, 3), "burden() 0");
        });
        doc.edge("STATE: there is no TOWN.", c -> {
            c.run(new LeeVanes(), "burden() STATE");
            LeeVanes x = new LeeVanes();
            c.due("a text without its end", Checks.take(x, "t12;x3w"), -107);
            c.run(x, "burden() STATE; town(3, 0, 0, 6) -106; burden() STATE");
        });
    }

    private static void told(ReadAlong doc) {
        doc.promise("10: told", "int told(int sheet, int lane, int i, int n)");
        doc.edge("BURDEN by VANES of n cells of a SHEET (as many as there are WORKS) in place of all.", c -> {
            LeeVanes x = Checks.townBy(SMALL, 0, 1, 2);
            Checks.row(x, 0, Checks.SHORTS, 0, 1, 0, 3, 1, 1);
            c.run(x, "burden() 6; told(0, 1, 0, 2) 0; told(0, 1, 1, 2) 6; told(0, 1, 2, 2) 0; told(0, 1, 4, 2) 6; burden() 6; "
                + "ofWork(0, 2) 1; ofWork(1, 2) 2");
            LeeVanes none = Checks.townOf("t12;w1w1");
            c.run(none, "sheet(0, 0, 0) 1; told(0, 0, 0, 0) 0; told(3, 0, 8, 0) 0; told(3, 0, 0, 0) 0");
            LeeVanes four = Checks.townBy("t15;x9x9x9x9w1", 2);
            Checks.row(four, 0, Checks.INTS, 0, 1, 1, 1, 1);
            // To the ward come 5, 6, 7, 8: 5, 1, 6, 2; without the first 6, 1, 7.
            c.run(four, "told(0, 2, 1, 4) 2; told(0, 2, 0, 4) 7");
        });
        doc.edge("UNKNOWN: SHEET;", c -> c.runEach(SMALL, "told(?, 0, 0, 2) UNKNOWN; told(?, 3, -1, -1) UNKNOWN; fault() 0",
            NO_SHEET));
        doc.edge("OUTSIDE: lane;", c -> {
            c.runEach(SMALL, "told(3, ?, 0, 2) OUTSIDE; told(0, ?, -1, -1) OUTSIDE; fault() 0", NO_LANE);
            c.run(new LeeVanes(), "told(0, 3, 0, 0) OUTSIDE");
        });
        doc.edge("STATE: there is no TOWN;", c -> {
            c.run(new LeeVanes(), "told(0, 0, 0, 0) STATE; fault() 0; sheet(0, 0, 0) 1; told(0, 0, 0, 0) STATE; "
                + "told(0, 1, 0, 0) STATE; told(0, 0, 0, -1) STATE; told(0, 0, 9, 0) STATE; fault() 0");
        });
        doc.edge("CAST;", c -> c.run(vanesLaid(), "told(0, 1, 0, 2) CAST; fault() 2; told(0, 0, 0, 2) CAST; "
            + "told(0, 1, 9, -1) CAST; told(0, 1, 0, 9) CAST; told(3, 2, 0, 2) CAST; told(0, 2, 0, 2) 6; fault() 0"));
        doc.edge("NULL;", c -> c.run(vanesLaid(), "told(1, 0, 0, 2) NULL; told(1, 1, 0, 2) NULL; told(1, 2, 0, 2) NULL; "
            + "fault() 1; told(1, 0, -1, -1) NULL; lose(0) 1; told(0, 2, 0, 2) NULL"));
        doc.edge("SIZE;", c -> c.run(vanesLaid(), "told(0, 2, 0, -1) SIZE; fault() 4; told(0, 2, -1, -1) SIZE; "
            + "told(0, 2, 9, MIN) SIZE"));
        doc.edge("INDEX;", c -> c.run(vanesLaid(), "told(0, 2, 4, 2) INDEX; fault() 3; told(0, 2, -1, 2) INDEX; "
            + "told(0, 2, 6, 0) INDEX; told(0, 2, -1, 0) INDEX; told(0, 2, 0, 6) INDEX; told(0, 2, 5, 1) INDEX; "
            + "told(0, 2, MAX, MAX) INDEX; told(0, 2, 1, MAX) INDEX; told(0, 2, MIN, 2) INDEX; told(0, 2, 3, 2) OUTSIDE; "
            + "fault() 0"));
        doc.edge("OUTSIDE: n is not how many WORKS there are, a cell is not 0 .. 3.", c -> {
            c.run(vanesLaid(), "told(0, 2, 0, 1) OUTSIDE; told(0, 2, 0, 3) OUTSIDE; told(0, 2, 0, 0) OUTSIDE; "
                + "told(0, 2, 5, 0) OUTSIDE; fault() 0; told(0, 2, 0, 2) 6");
            c.runEach(SMALL, "sheet(0, 2, 2) 1; put(0, 0, ?) 1; told(0, 2, 0, 2) OUTSIDE; put(0, 0, 1) 1; put(0, 1, ?) 1; "
                + "told(0, 2, 0, 2) OUTSIDE; put(0, 1, 3) 1; told(0, 2, 0, 2) 6", "-1", "4", "256", "MIN", "MAX");
            c.run(Checks.townOf("t12;w1w1"), "told(3, 0, 0, 1) OUTSIDE; told(3, 0, 0, 0) 0");
        });
    }

    /** In sheet 0 are the vanes 1, 0 and 1, 3 and a 4. */
    private static LeeVanes vanesLaid() {
        LeeVanes x = Checks.townOf(SMALL);
        Checks.row(x, 0, Checks.INTS, 1, 0, 1, 3, 4);
        return x;
    }

    // ---- 11 to 17

    private static void votes(ReadAlong doc) {
        doc.promise("11: vote", "int vote(int k, int w)");
        doc.edge("A VOTE.", c -> {
            c.run(Checks.townOf("t22;w1.;x2w1"), "vote(0, 0) 1; vote(1, 0) 0");
            c.run(Checks.townBy("t22;x2.;w1x2", 2, 2, 3), "vote(0, 0) 2; vote(0, 1) 3");
        });
        doc.edge("UNKNOWN: WARD, WORK.", c -> {
            c.runEach(SMALL, "vote(?, 0) UNKNOWN; vote(?, 1) UNKNOWN", NO_WARD);
            c.runEach(SMALL, "vote(0, ?) UNKNOWN; vote(2, ?) UNKNOWN; vote(?, ?) UNKNOWN", "-1", "3", "4", "MIN", "MAX");
            c.run(Checks.townOf(SMALL), "vote(0, 2) UNKNOWN; vote(2, 1) 0; vote(2, 2) UNKNOWN; vote(3, 2) UNKNOWN");
            c.run(Checks.townOf("t12;x1x1"), "vote(0, 0) UNKNOWN");
            c.run(Checks.townOf("t12;w1w1"), "vote(0, 0) UNKNOWN");
        });
        doc.promise("12: ballot", "int ballot(int w)");
        doc.edge("A BALLOT.", c -> {
            c.run(Checks.townOf("t32;w1.;w1.;x5w9"), "ballot(0) 1; ofWork(0, 2) 0");
            c.run(Checks.townBy("t12;x1x1", 0, 3, 3), "ballot(0) 0; ballot(1) 0; ofWork(1, 2) 3");
        });
        doc.edge("UNKNOWN.", c -> c.runEach(SMALL, "ballot(?) UNKNOWN; ballot(1) 0", NO_WORK));
        doc.promise("13: year", "int year()");
        doc.edge("VANES become what they are behind a YEAR: how many were turned.", c -> {
            c.run(Checks.townBy("t13;x3w1x3", 2, 0, 3), "year() 1; ofWork(0, 2) 1; ofWork(1, 2) 3; year() 0; ofWork(0, 2) 1");
            c.run(Checks.townBy("t15;x1x1x1x1.", 0, 3, 2, 1, 0), "year() 3; year() 0; ofWork(0, 2) 0; ofWork(2, 2) 0");
            c.run(Checks.townBy("t15;x1x1x1x1.", 0, 3, 2, 1, 1), "year() 4; year() 0");
            c.run(Checks.townOf("t12;.."), "year() 0");
        });
        doc.edge("STATE: there is no TOWN.", c -> c.run(new LeeVanes(), "year() STATE; trace() 0; fault() 0"));
    }

    private static void rounds(ReadAlong doc) {
        doc.promise("14: round", "int round(int what)");
        doc.edge("ROUND: YEARS till then (what 0), behind how many they are so again (1).", c -> {
            c.run(Checks.townBy("t32;r5x5;x8f4;.x4", 2, 3, 2, 1), "round(0) 1; round(1) 2; ofWork(0, 2) 3; ofWork(1, 2) 2; "
                + "ofWork(2, 2) 1; year() 3; round(0) 0; round(1) 2");
            c.run(Checks.townBy("t14;x3r4x6x8", 2, 2, 1, 3), "round(0) 3; round(1) 1; year() 3; round(0) 2; year() 1; "
                + "round(0) 1; year() 1; round(0) 0; year() 0; round(1) 1");
            c.run(Checks.townOf("t12;.."), "round(0) 0; round(1) 1");
        });
        doc.edge("OUTSIDE;", c -> {
            c.runEach(SMALL, "round(?) OUTSIDE", "-1", "2", "MIN", "MAX");
            c.runEach("", "round(?) OUTSIDE", "-1", "2", "MIN", "MAX");
        });
        doc.edge("STATE: there is no TOWN.", c -> c.run(new LeeVanes(), "round(0) STATE; round(1) STATE"));
    }

    private static void bestAndCalm(ReadAlong doc) {
        String[] texts = {"t34;.w3..;w9x4w2w2;.w9..", "t12;w1x1", "t12;w1w1"};
        doc.promise("15: best", "int best(int w)");
        doc.edge("BEST: the BURDEN (w -1), the VANE of WORK w;", c -> {
            c.run(Checks.townBy(texts[0], 0, 2), "burden() 27; best(-1) 9; best(0) 0; ofWork(0, 2) 2; burden() 27");
            c.run(Checks.townOf("t44;.w1w1.;.x3x3w1;.x3x3w1;.w1w1."), "best(-1) 0; best(0) 3; best(3) 3");
            // Down there are no cells.
            c.run(Checks.townOf("t23;w9w3.;w9x2r1"), "best(-1) 0; best(0) 2");
        });
        doc.edge("NONE: there is no such WORK.", c -> {
            c.runEach(texts[0], "best(?) NONE", "1", "2", "3", "4", "MAX");
            c.runEach(texts[2], "best(?) NONE; best(-1) 0", "0", "1", "MAX");
        });
        doc.edge("UNKNOWN: w below -1;", c -> {
            c.runEach(texts[0], "best(?) UNKNOWN", "-2", "-9", "MIN");
            c.runEach("", "best(?) UNKNOWN", "-2", "MIN");
        });
        doc.edge("STATE: there is no TOWN.", c -> c.runEach("", "best(?) STATE", "-1", "0", "4", "MAX"));
        doc.promise("16: calm", "int calm(int w)");
        doc.edge("CALM: the most that one MINDS (w -1), the VANE of WORK w;", c -> {
            c.run(Checks.townBy(texts[0], 0, 2), "calm(-1) 6; calm(0) 1; ofWork(0, 2) 2; burden() 27");
            c.run(Checks.townOf("t44;.w1w1.;.x3x3w1;.x3x3w1;.w1w1."), "calm(-1) 0; calm(0) 3; calm(3) 3");
            c.run(Checks.townOf("t12;x9x9"), "calm(-1) 0; calm(0) 0; calm(1) 0");
        });
        doc.edge("NONE: there is no such WORK.", c -> {
            c.runEach(texts[0], "calm(?) NONE", "1", "2", "3", "4", "MAX");
            c.runEach(texts[2], "calm(?) NONE; calm(-1) 0", "0", "1", "MAX");
        });
        doc.edge("UNKNOWN: w below -1;", c -> {
            c.runEach(texts[0], "calm(?) UNKNOWN", "-2", "-9", "MIN");
            c.runEach("", "calm(?) UNKNOWN", "-2", "MIN");
        });
        doc.edge("STATE: there is no TOWN.", c -> c.runEach("", "calm(?) STATE", "-1", "0", "4", "MAX"));
    }

    private static void bribe(ReadAlong doc) {
        doc.promise("17: bribe", "int bribe(int w, int v)");
        doc.edge("BRIBE, as a set;", c -> {
            c.run(Checks.townOf("t32;w9.;..;x5w1"), "bribe(0, 0) 0; bribe(0, 1) 2; bribe(0, 2) 3; bribe(0, 3) 3");
            c.run(Checks.townOf("t32;w8.;r1r6;x5f3"), "bribe(0, 1) 4; bribe(0, 0) 0; ofWork(0, 2) 0");
            c.run(Checks.townOf("t12;x9f9"), "vote(0, 0) 0; bribe(0, 1) 1");
        });
        doc.edge("NONE.", c -> c.run(Checks.townOf("t12;x3x3"), "bribe(0, 0) 0; bribe(1, 0) 0; bribe(0, 1) NONE; "
            + "bribe(1, 3) NONE"));
        doc.edge("UNKNOWN: WORK;", c -> c.runEach(SMALL, "bribe(?, 0) UNKNOWN; bribe(?, 4) UNKNOWN; bribe(?, -1) UNKNOWN",
            NO_WORK));
        doc.edge("OUTSIDE: v (0 .. 3).", c -> c.runEach(SMALL, "bribe(0, ?) OUTSIDE; bribe(1, ?) OUTSIDE; bribe(1, 3) 3; "
            + "bribe(1, 0) 0",
            "-1", "4", "MIN", "MAX"));
    }
}
