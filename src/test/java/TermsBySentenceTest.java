import java.util.ArrayList;
import java.util.List;

/** The document's terms, sentence by sentence: a test of its own for each that names a boundary. */
public final class TermsBySentenceTest {
    private static final int MIN = Checks.MIN, MAX = Checks.MAX;
    private static final String SMALL = Checks.SMALL;
    private static final String NO_WORKS = "t12;w1.";

    public static void main(String[] args) {
        ReadAlong doc = new ReadAlong("An object is used", "## Promise 1:");
        doc.edge("An object is used for at most 512 calls after it has been made; what later calls answer is free.",
            TermsBySentenceTest::lastCall);
        // The public face is FaceTest's.
        doc.passTo("## Terms");
        refusals(doc);
        faults(doc);
        shapes(doc);
        texts(doc);
        smells(doc);
        votes(doc);
        readings(doc);
        sheets(doc);
        doc.plain("Ahead of the calls `town`, `ofWard`, `ofWork`, `law`, `turn` the interface says: ---- 1 the town.");
        doc.plain("Ahead of the calls `smell`, `minds`, `burden`, `told` the interface says: ---- 2 smells.");
        doc.plain("Ahead of the calls `vote`, `ballot`, `year`, `round`, `best`, `calm`, `bribe` the interface says: "
            + "---- 3 votes.");
        doc.plain("Ahead of the calls `reading`, `back`, `settings`, `laws`, `powers`, `odds` the interface says: "
            + "---- 4 how it smelt.");
        doc.plain("Ahead of the calls `sheet`, `lose`, `put`, `cell`, `copy`, `tell`, `woo`, `as`, `trace`, `fault`, `many` "
            + "the interface says: ---- 5 sheets, parts.");
        doc.end();
    }

    private static void lastCall(Checks c) {
        LeeVanes x = Checks.townOf("t12;x3w2");
        int trace = 0;
        for (int call = 11; call < 512; call++) {
            x.tell(0);
            trace = 31 * trace + 1;
        }
        c.due("trace(), call 512", x.trace(), trace);
        LeeVanes y = Checks.townOf("t12;x3w2");
        for (int call = 11; call < 512; call++) {
            y.town(3, 0, 0, 8);
        }
        c.due("town(3, 0, 0, 8), call 512", y.town(3, 0, 0, 8), 1);
        LeeVanes z = Checks.townOf("t12;x3w2");
        for (int call = 11; call < 511; call += 2) {
            z.reading(1, 0);
            z.back(1);
        }
        c.run(z, "reading(0, 3) 0; settings(-1) 4");
    }

    // ---- refusals

    private static void refusals(ReadAlong doc) {
        doc.edge("REFUSALS: UNKNOWN (there is no such WARD, WORK, CELL, SHEET, place),", TermsBySentenceTest::unknown);
        doc.edge("OUTSIDE (another number is not as told),", TermsBySentenceTest::outside);
        doc.edge("STATE (as told),", TermsBySentenceTest::state);
        doc.edge("FULL;", c -> {
            LeeVanes x = Checks.townOf(SMALL);
            c.run(x, "reading(0, 3) 0; reading(0, 3) 1; reading(0, 3) 2; reading(0, 3) 3; reading(0, 3) 4; reading(0, 3) 5");
            c.run(x, "reading(0, 3) 6; reading(0, 3) 7; reading(0, 3) FULL; reading(5, 99) FULL; many(4) 8");
            c.run(x, "back(1) 7; reading(0, 3) 7; reading(0, 3) FULL");
        });
        doc.edge("of several the first in the order in which a call's line tells them.", TermsBySentenceTest::orderOfRefusals);
        doc.edge("They change nothing (but fault(), of a call that names FAULTS).", TermsBySentenceTest::refusedChangesNothing);
    }

    private static void unknown(Checks c) {
        c.runEach(SMALL, "ofWard(?, 0) UNKNOWN; minds(?) UNKNOWN; vote(?, 0) UNKNOWN; tell(?) UNKNOWN; woo(?) UNKNOWN; "
            + "as(?, 0) UNKNOWN", Checks.NO_WARD);
        c.runEach(SMALL, "ofWork(?, 0) UNKNOWN; turn(?, 0) UNKNOWN; vote(0, ?) UNKNOWN; ballot(?) UNKNOWN; "
            + "bribe(?, 0) UNKNOWN; powers(?) UNKNOWN", Checks.NO_WORK);
        c.runEach(SMALL, "smell(?) UNKNOWN; reading(?, 0) UNKNOWN; odds(?, 0, 0) LOST", Checks.NO_CELL);
        c.runEach(SMALL, "town(?, 0, 0, 0) UNKNOWN; told(?, 0, 0, 0) UNKNOWN; sheet(?, 0, 0) UNKNOWN; lose(?) UNKNOWN; "
            + "put(?, 0, 0) UNKNOWN; cell(?, 0, 0) LOST; fault() 0; copy(?, 0, 3, 0, 0) UNKNOWN; copy(3, 0, ?, 0, 0) UNKNOWN",
            Checks.NO_SHEET);
        c.runEach(SMALL, "best(?) UNKNOWN; calm(?) UNKNOWN; settings(?) UNKNOWN", "-2", "MIN");
        LeeVanes x = Checks.townOf(SMALL);
        c.run(x, "ofWard(0, 2) 1; ofWard(2, 2) 5; ofWork(0, 0) 0; ofWork(1, 0) 3; smell(0) 4; smell(5) 0; put(3, 15, 0) 1; "
            + "lose(0) 0");
    }

    private static void outside(Checks c) {
        c.runEach(SMALL, "ofWard(0, ?) OUTSIDE", "-1", "4", "MIN", "MAX");
        c.runEach(SMALL, "ofWork(0, ?) OUTSIDE; law(?) OUTSIDE; as(0, ?) OUTSIDE; town(3, ?, 0, 0) OUTSIDE; "
            + "told(3, ?, 0, 0) OUTSIDE; sheet(0, ?, 0) OUTSIDE; cell(3, 0, ?) LOST; fault() 0", Checks.NO_LANE);
        c.runEach(SMALL, "turn(0, ?) OUTSIDE; bribe(0, ?) OUTSIDE", "-1", "4", "MIN", "MAX");
        c.runEach(SMALL, "round(?) OUTSIDE; odds(0, 0, ?) LOST", "-1", "2", "MIN", "MAX");
        c.runEach(SMALL, "reading(0, ?) OUTSIDE; odds(0, ?, 0) LOST", "-1", "100", "MIN", "MAX");
        c.runEach(SMALL, "back(?) OUTSIDE", "-1", "1", "MIN", "MAX");
        c.runEach(SMALL, "many(?) OUTSIDE", "-1", "5", "MIN", "MAX");
        c.runEach(SMALL, "sheet(0, 0, ?) OUTSIDE", "61", "MAX");
    }

    private static void state(Checks c) {
        String calls = "law(0) STATE; law(2) STATE; burden() STATE; told(0, 0, 0, 0) STATE; year() STATE; round(0) STATE; "
            + "round(1) STATE; best(-1) STATE; best(0) STATE; calm(-1) STATE; calm(0) STATE; settings(-1) STATE; "
            + "settings(0) STATE; laws() STATE";
        c.run(new LeeVanes(), calls);
        LeeVanes refused = new LeeVanes();
        c.due("a text that ends too soon", Checks.take(refused, "t12;x3"), -106);
        c.run(refused, calls);
        LeeVanes empty = Checks.townOf("t12;..");
        c.run(empty, "law(0) 0; burden() 0; year() 0; round(0) 0; round(1) 1; best(-1) 0; calm(-1) 0; settings(-1) 1; laws() 7");
    }

    private static void orderOfRefusals(Checks c) {
        LeeVanes none = new LeeVanes();
        c.run(none, "town(4, 3, -1, -1) UNKNOWN; told(4, 3, -1, -1) UNKNOWN; told(0, 3, -1, -1) OUTSIDE; "
            + "told(0, 0, -1, -1) STATE");
        c.run(none, "law(3) OUTSIDE; round(2) OUTSIDE; best(-2) UNKNOWN; calm(-2) UNKNOWN; settings(-2) UNKNOWN");
        c.run(none, "ofWard(0, 4) UNKNOWN; ofWork(0, 3) UNKNOWN; turn(0, 4) UNKNOWN; bribe(0, 4) UNKNOWN; as(0, 3) UNKNOWN");
        c.run(none, "reading(0, 100) UNKNOWN; sheet(4, 3, 61) UNKNOWN; sheet(0, 3, -1) OUTSIDE; sheet(0, 0, 61) OUTSIDE");
        c.run(none, "put(4, -1, 0) UNKNOWN; copy(4, -1, 0, -1, -1) UNKNOWN; copy(0, -1, 4, -1, -1) UNKNOWN; "
            + "town(0, 3, -1, -1) OUTSIDE");
        LeeVanes x = Checks.townOf(SMALL);
        for (int k = 0; k < 8; k++) {
            c.due("reading(0, 0)", x.reading(0, 0), k);
        }
        c.run(x, "reading(6, 100) UNKNOWN; reading(6, 0) UNKNOWN; reading(0, 100) OUTSIDE; reading(0, 0) FULL");
        c.run(x, "told(3, 0, 0, 17) INDEX; told(3, 0, 0, 3) OUTSIDE; vote(3, 2) UNKNOWN; ofWard(3, 4) UNKNOWN; "
            + "ofWork(2, 3) UNKNOWN");
    }

    private static void refusedChangesNothing(Checks c) {
        String unnamed = "ofWard(3, 0) UNKNOWN; ofWard(0, 4) OUTSIDE; ofWork(2, 0) UNKNOWN; ofWork(0, 3) OUTSIDE; "
            + "law(3) OUTSIDE; law(-1) OUTSIDE; turn(2, 0) UNKNOWN; turn(0, 4) OUTSIDE; turn(0, -1) OUTSIDE; smell(6) UNKNOWN; "
            + "minds(3) UNKNOWN; vote(3, 0) UNKNOWN; vote(0, 2) UNKNOWN; ballot(2) UNKNOWN; round(2) OUTSIDE; "
            + "best(-2) UNKNOWN; calm(-2) UNKNOWN; bribe(2, 0) UNKNOWN; bribe(0, 4) OUTSIDE; reading(6, 0) UNKNOWN; "
            + "reading(0, 100) OUTSIDE; reading(0, -1) OUTSIDE; back(2) OUTSIDE; back(-1) OUTSIDE; settings(-2) UNKNOWN; "
            + "powers(2) UNKNOWN; odds(6, 0, 0) LOST; odds(0, 100, 0) LOST; odds(0, 0, 2) LOST; lose(4) UNKNOWN; "
            + "lose(-1) UNKNOWN; tell(3) UNKNOWN; tell(-1) UNKNOWN; woo(3) UNKNOWN; woo(-1) UNKNOWN; many(5) OUTSIDE";
        for (String call : unnamed.split("; ")) {
            changesNothing(c, call, 1);
        }
        String named = "town(4, 0, 0, 16) UNKNOWN; town(3, 3, 0, 16) OUTSIDE; town(3, 0, 0, 15) -115; "
            + "told(4, 0, 0, 2) UNKNOWN; told(0, 3, 0, 2) OUTSIDE; told(0, 0, 0, 1) OUTSIDE; told(0, 0, 1, 2) OUTSIDE; "
            + "sheet(4, 0, 1) UNKNOWN; sheet(0, 3, 1) OUTSIDE; sheet(0, 0, 61) OUTSIDE; put(4, 0, 9) UNKNOWN; "
            + "cell(4, 0, 0) LOST; cell(0, 0, 3) LOST; copy(4, 0, 0, 0, 1) UNKNOWN; copy(0, 0, 4, 0, 1) UNKNOWN; "
            + "as(3, 0) UNKNOWN; as(0, 3) OUTSIDE";
        for (String call : named.split("; ")) {
            changesNothing(c, call, 0);
        }
        LeeVanes none = new LeeVanes();
        c.run(none, "law(2) STATE; year() STATE; many(3) 0; put(0, 0, 0) NULL; law(2) STATE; fault() 1; "
            + "told(0, 0, 0, 0) STATE; fault() 0");
    }

    /** A town with vanes, a law, a reading and a trace; sheets 0, 1, 3 with rows; the latest fault is 1. */
    private static LeeVanes prepared() {
        LeeVanes x = Checks.townBy(SMALL, 1, 1, 2);
        x.reading(1, 2);
        x.tell(0);
        Checks.row(x, 0, Checks.BYTES, 1, 2, 4);
        Checks.row(x, 1, Checks.SHORTS, 5);
        x.put(2, 0, 0);
        return x;
    }

    private static void changesNothing(Checks c, String call, int fault) {
        LeeVanes x = prepared();
        c.run(x, call, "fault() " + fault);
        c.due("is all as it was behind " + call, all(x).equals(all(prepared())) ? 1 : 0, 1);
    }

    /** All that calls tell of an object, but for its latest fault. */
    private static List<Long> all(LeeVanes x) {
        List<Long> all = new ArrayList<>();
        String calls = "many(0); many(1); many(2); many(3); many(4); trace(); burden(); laws(); settings(-1); settings(0); "
            + "settings(1); powers(0); powers(1); ofWork(0, 0); ofWork(0, 1); ofWork(0, 2); ofWork(1, 0); ofWork(1, 1); "
            + "ofWork(1, 2); ofWard(0, 0); ofWard(0, 1); ofWard(0, 2); ofWard(1, 0); ofWard(1, 1); ofWard(1, 2); ofWard(2, 0); "
            + "ofWard(2, 1); ofWard(2, 2); smell(0); smell(1); smell(2); smell(3); smell(4); smell(5)";
        for (String call : calls.split("; ")) {
            all.add(Calls.ask(x, call));
        }
        for (int k = 0; k < 4; k++) {
            addSheet(all, x, k);
        }
        return all;
    }

    private static void addSheet(List<Long> all, LeeVanes x, int k) {
        for (int lane = 0; lane < 3; lane++) {
            int fault = 0;
            for (int i = 0; i < 60 && fault == 0; i++) {
                all.add(x.cell(k, i, lane));
                fault = x.fault();
                all.add((long) fault);
            }
        }
    }

    // ---- faults

    private static void faults(ReadAlong doc) {
        doc.edge("FAULTS are the machine's: 1 NULL (there is nothing),", c -> {
            c.runEach(SMALL, "town(?, 0, 0, 0) NULL; fault() 1; fault() 1; told(?, 0, 0, 2) NULL; fault() 1; "
                + "put(?, 0, 0) NULL; fault() 1; cell(?, 0, 0) LOST; fault() 1; copy(?, 0, 3, 0, 0) NULL; fault() 1; "
                + "copy(3, 0, ?, 0, 0) NULL; fault() 1; copy(?, 0, ?, 0, 0) NULL; fault() 1", "0", "1", "2");
            c.run(Checks.townOf(SMALL), "lose(3) 1; town(3, 0, 0, 0) NULL; put(3, 0, 0) NULL; cell(3, 0, 0) LOST; fault() 1");
        });
        doc.edge("2 CAST (it is of another LANE, kind),", TermsBySentenceTest::cast);
        doc.edge("3 INDEX (of cells from i on also where i is not 0 .. how many there are, if none of them is taken, too),",
            TermsBySentenceTest::index);
        doc.edge("4 SIZE (a length below 0).", c -> c.runEach(SMALL, "town(3, 0, 0, ?) SIZE; fault() 4; "
            + "town(3, 0, 16, ?) SIZE; told(3, 0, 0, ?) SIZE; fault() 4; sheet(0, 0, ?) SIZE; fault() 4; lose(0) 0",
            "-1", "-2", "MIN"));
        doc.edge("Of a call the first that is come to, in the order told;", c -> {
            LeeVanes x = Checks.townOf(SMALL);
            c.run(x, "town(0, 1, -1, -1) NULL; told(0, 1, -1, -1) NULL; put(0, -1, 0) NULL; cell(0, -1, 1) LOST; fault() 1");
            c.run(x, "town(3, 1, -1, -1) CAST; told(3, 1, -1, -1) CAST; cell(3, -1, 1) LOST; fault() 2");
            c.run(x, "town(3, 0, -1, -1) SIZE; told(3, 0, -1, -1) SIZE; town(3, 0, -1, 1) INDEX; told(3, 0, 17, 0) INDEX");
            c.run(x, "copy(0, -1, 3, -1, -1) NULL; copy(3, -1, 0, -1, -1) NULL; sheet(0, 2, 1) 1; copy(0, -1, 3, -1, -1) CAST");
        });
        doc.edge("it answers -10 less it (LOST, where a long is answered, as for refusals) and changes nothing;", c -> {
            String calls = "town(2, 0, 0, 16) -11; town(3, 1, 0, 16) -12; town(3, 0, 0, 17) -13; town(3, 0, 0, -1) -14; "
                + "told(2, 0, 0, 2) -11; told(0, 1, 0, 2) -12; told(0, 0, 2, 2) -13; told(0, 0, 0, -1) -14; "
                + "sheet(0, 1, -1) -14; put(2, 0, 9) -11; put(0, 3, 9) -13; put(0, -1, 9) -13; copy(2, 0, 0, 0, 1) -11; "
                + "copy(0, 0, 2, 0, 1) -11; copy(0, 0, 1, 0, 1) -12; copy(0, 1, 3, 0, 3) -13; copy(0, 0, 3, 15, 2) -13; "
                + "as(0, 1) -12; as(1, 2) -12";
            for (String call : calls.split("; ")) {
                changesNothing(c, call, -10 - Integer.parseInt(call.substring(call.lastIndexOf(' ') + 1)));
            }
            changesNothing(c, "cell(2, 0, 0) LOST", 1);
            changesNothing(c, "cell(0, 0, 1) LOST", 2);
            changesNothing(c, "cell(0, 3, 0) LOST", 3);
            changesNothing(c, "cell(4, 0, 0) LOST", 0);
        });
        doc.edge("fault() tells it.", c -> {
            LeeVanes x = Checks.townOf(SMALL);
            c.run(x, "fault() 0; put(0, 0, 0) NULL; fault() 1; as(0, 1) CAST; fault() 2; put(3, 16, 0) INDEX; fault() 3");
            c.run(x, "sheet(0, 0, -1) SIZE; fault() 4; cell(0, 0, 0) LOST; fault() 1; fault() 1");
        });
    }

    private static void cast(Checks c) {
        for (int lane = 0; lane < 3; lane++) {
            LeeVanes x = Checks.townOf(NO_WORKS);
            x.sheet(0, lane, 4);
            for (int other = 0; other < 3; other++) {
                boolean isIt = lane == other;
                x.sheet(1, other, 4);
                c.due("town, " + lane + " as " + other, x.town(0, other, 0, 0), isIt ? -100 : Checks.CAST);
                c.due("fault", x.fault(), isIt ? 0 : 2);
                c.due("told, " + lane + " as " + other, x.told(0, other, 0, 0), isIt ? 0 : Checks.CAST);
                c.due("fault", x.fault(), isIt ? 0 : 2);
                c.due("cell, " + lane + " as " + other, x.cell(0, 0, other), isIt ? 0 : Long.MIN_VALUE);
                c.due("fault", x.fault(), isIt ? 0 : 2);
                c.due("copy, " + lane + " to " + other, x.copy(0, 0, 1, 0, 1), isIt ? 1 : Checks.CAST);
                c.due("fault", x.fault(), isIt ? 0 : 2);
            }
        }
        c.run(Checks.townOf(SMALL), "as(0, 1) CAST; fault() 2; as(0, 2) CAST; as(1, 2) CAST; as(0, 0) 1; fault() 0; "
            + "as(1, 1) 1; as(2, 2) 1");
    }

    private static void index(Checks c) {
        LeeVanes x = Checks.townOf(NO_WORKS);
        c.run(x, "sheet(0, 2, 4) 1; town(0, 2, 4, 0) -100; town(0, 2, 0, 0) -100; told(0, 2, 4, 0) 0; told(0, 2, 0, 0) 0");
        c.run(x, "copy(0, 4, 0, 4, 0) 0; copy(0, 0, 0, 0, 4) 4; fault() 0");
        c.runEach(NO_WORKS, "sheet(0, 2, 4) 1; town(0, 2, ?, 0) INDEX; fault() 3; town(0, 2, ?, 1) INDEX; "
            + "told(0, 2, ?, 0) INDEX; fault() 3; copy(0, ?, 0, 0, 0) INDEX; fault() 3; copy(0, 0, 0, ?, 0) INDEX; fault() 3; "
            + "put(0, ?, 0) INDEX; fault() 3; cell(0, ?, 2) LOST; fault() 3", "-1", "5", "60", "MIN", "MAX");
        c.runEach(NO_WORKS, "sheet(0, 2, 4) 1; town(0, 2, 0, ?) INDEX; town(0, 2, 1, ?) INDEX; told(0, 2, 0, ?) INDEX; "
            + "told(0, 2, 4, ?) INDEX; copy(0, 0, 0, 0, ?) INDEX; copy(0, 1, 0, 0, ?) INDEX; copy(0, 0, 0, 1, ?) INDEX",
            "5", "60", "MAX");
        c.run(x, "town(0, 2, 4, 1) INDEX; town(0, 2, 1, 4) INDEX; told(0, 2, 4, 1) INDEX; copy(0, 4, 0, 0, 1) INDEX; "
            + "put(0, 4, 0) INDEX");
        c.run(x, "cell(0, 4, 2) LOST; fault() 3; put(0, 3, 7) 1; cell(0, 3, 2) 7");
        c.run(x, "sheet(0, 2, 0) 1; town(0, 2, 0, 0) -100; town(0, 2, 1, 0) INDEX; told(0, 2, 0, 0) 0; put(0, 0, 0) INDEX; "
            + "copy(0, 0, 0, 0, 0) 0");
    }

    // ---- what is answered

    private static void shapes(ReadAlong doc) {
        doc.edge("NONE is -9.", c -> {
            c.due("NONE", LeeVanes.NONE, -9);
            c.run(Checks.townOf(SMALL), "best(2) -9; calm(2) -9; settings(2) -9; reading(0, 99) 0; settings(0) -9");
            c.run(Checks.townOf("t12;x3."), "bribe(0, 1) -9");
        });
        doc.edge("Sets are told as bits (bit k for number k).", c -> {
            LeeVanes x = Checks.townBy("t12;x9w2", 2, 1);
            c.run(x, "reading(1, 8) 0; laws() 7; powers(0) 512; back(1) 0; reading(0, 1) 0; laws() 0; powers(0) 2; back(1) 0; "
                + "powers(0) 1022");
            c.run(Checks.townBy("t13;x3.x3", 0, 1, 3), "reading(1, 0) 0; laws() 4; back(1) 0; reading(1, 4) 0; laws() 1; "
                + "back(1) 0; reading(1, 2) 0; laws() 2");
            // Ward 0 votes 1, ward 1 votes 0; then 0 and 1 vote 1, 2 and 3 vote 0.
            c.run(Checks.townOf("t32;w9.;..;x5w1"), "bribe(0, 0) 0; bribe(0, 1) 2; bribe(0, 2) 3");
            c.run(Checks.townOf("t32;w8.;r1r6;x5f3"), "bribe(0, 0) 0; bribe(0, 1) 4");
        });
        doc.edge("Shares are told as upper and lower number (above 0) in least terms.", c -> {
            LeeVanes x = Checks.townOf("t12;x9.");
            c.run(x, "odds(0, 9, 0) 1; odds(0, 9, 1) 1; odds(0, 10, 0) 0; odds(0, 10, 1) 1; odds(1, 8, 0) 1; odds(1, 8, 1) 4");
            c.run(x, "odds(1, 9, 0) 0; odds(1, 9, 1) 1; odds(1, 0, 0) 1; odds(1, 0, 1) 1");
            c.run(Checks.townOf("t13;x3.x3"), "odds(1, 1, 0) 7; odds(1, 1, 1) 16; odds(1, 3, 0) 1; odds(1, 3, 1) 16");
            c.run(Checks.townBy("t12;x2x3", 2), "odds(0, 1, 0) 3; odds(0, 1, 1) 4");
            c.run(Checks.townOf("t12;w1."), "odds(1, 0, 0) 1; odds(1, 0, 1) 1; odds(1, 1, 0) 0; odds(1, 1, 1) 1");
            c.run(Checks.townOf("t15;x9x9x9x9."), "odds(4, 26, 0) 1; odds(4, 26, 1) 256; odds(4, 1, 0) 175; odds(4, 1, 1) 256");
            // All 256 of 256, none of them, and a quarter by one way of the last work.
            c.run(Checks.townOf("t15;x9x9x9x9."), "odds(4, 0, 0) 1; odds(4, 0, 1) 1; odds(0, 9, 0) 1; odds(0, 9, 1) 1; "
                + "odds(4, 27, 0) 0; odds(4, 27, 1) 1");
            c.run(Checks.townOf("t15;x1x1x1x9."), "odds(4, 8, 0) 1; odds(4, 8, 1) 4; odds(2, 1, 0) 1; odds(2, 1, 1) 1; "
                + "odds(2, 9, 0) 1; odds(2, 9, 1) 4");
        });
    }

    // ---- 1 a town by a text

    private static void texts(ReadAlong doc) {
        doc.edge("1 A TOWN by a TEXT: t,", c -> {
            c.text("", -100);
            c.text("12;..", -100);
            c.text("x12;..", -100);
            c.text("t", -101);
            c.text("tt12;..", -101);
            c.text("t12;..", 0);
        });
        doc.edge("a digit 1 .. 4 (HIGH),", c -> {
            c.text("t02;..", -101);
            c.text("t12;..", 0);
            c.text("t42;..;..;..;..", 0);
            c.text("t52;..;..;..;..;..", -101);
            c.text("t92;..", -101);
        });
        doc.edge("a digit 2 .. 6 (WIDE),", c -> {
            c.text("t11;.", -102);
            c.text("t10;", -102);
            c.text("t12;..", 0);
            c.text("t16;......", 0);
            c.text("t17;.......", -102);
        });
        doc.edge("then HIGH times: ; and WIDE CELLS,", TermsBySentenceTest::shape);
        doc.edge("numbered from 0 on by rows from above, in a row from the left:", c -> {
            LeeVanes x = Checks.townOf("t46;w1....r1;f1.....;......;w2....w3");
            c.run(x, "many(0) 24; ofWard(0, 2) 0; ofWard(1, 2) 5; ofWard(2, 2) 6; ofWard(3, 2) 18; ofWard(4, 2) 23");
            c.run(Checks.townOf("t32;.x1;x2.;.x3"), "ofWork(0, 0) 1; ofWork(1, 0) 2; ofWork(2, 0) 5; many(0) 6; smell(5) 3");
        });
        doc.edge(". (nothing),", c -> c.run(Checks.townOf("t12;.."), "many(0) 2; many(1) 0; many(2) 0; smell(0) 0; smell(1) 0"));
        doc.edge("x and a digit 1 .. 9 (a WORK, how STRONG it is;", c -> {
            c.text("t12;x0.", -105);
            c.text("t12;x:.", -105);
            c.text("t12;x..", -105);
            c.text("t12;xx1", -105);
            c.text("t12;x10.", -106);
            for (int strong = 1; strong <= 9; strong++) {
                c.run(Checks.townOf("t12;x" + strong + "."), "many(1) 1; many(2) 0; ofWork(0, 1) " + strong);
            }
        });
        doc.edge("numbered from 0 on as they come, 4 at most),", c -> {
            LeeVanes x = Checks.townOf("t22;x3x1;x4x1");
            c.run(x, "many(1) 4; ofWork(0, 1) 3; ofWork(1, 1) 1; ofWork(2, 1) 4; ofWork(3, 1) 1; ofWork(3, 0) 3; "
                + "ofWork(4, 0) UNKNOWN");
            c.text("t15;x1x1x1x1x1", -112);
            c.text("t23;x1x1.;x1x1x1", -114);
        });
        doc.edge("or a letter, a digit 1 .. 9 (a WARD, its NOSE;", c -> {
            for (String letter : new String[] {"w", "r", "f"}) {
                c.text("t12;" + letter + "0.", -105);
                c.text("t12;" + letter + ":.", -105);
                c.text("t12;" + letter + "..", -105);
                c.text("t12;" + letter + "w1", -105);
                for (int nose = 1; nose <= 9; nose++) {
                    c.run(Checks.townOf("t12;" + letter + nose + "."), "many(1) 0; many(2) 1; ofWard(0, 1) " + nose);
                }
            }
        });
        doc.edge("numbered from 0 on as they come, 6 at most).", c -> {
            LeeVanes x = Checks.townOf("t23;f3w1r4;w1r5f9");
            c.run(x, "many(2) 6; ofWard(0, 1) 3; ofWard(1, 1) 1; ofWard(2, 1) 4; ofWard(3, 1) 1; ofWard(4, 1) 5; ofWard(5, 1) 9");
            c.run(x, "ofWard(5, 2) 5; ofWard(6, 0) UNKNOWN");
            c.text("t24;w1r1f1w1;r1f1w1.", -117);
            c.text("t16;w1w1w1w1w1w1", 6);
        });
        doc.edge("FIRST FAULT: the place (from 0 on) of the first code with which no TEXT goes on",
            TermsBySentenceTest::firstFaults);
        doc.edge("(the x of a fifth WORK, the letter of a seventh WARD);", TermsBySentenceTest::tooMany);
        doc.edge("how many codes there are, if it just ends too soon.", c -> {
            String text = "t22;x1w2;.f3";
            for (int n = 0; n < text.length(); n++) {
                c.text(text.substring(0, n), -100 - n);
            }
            c.text(text, 2);
            LeeVanes x = new LeeVanes();
            Checks.take(x, "t42;..;..;..;..");
            c.run(x, "town(3, 0, 0, 14) -114; town(3, 0, 0, 13) -113; town(3, 0, 0, 12) -112; town(3, 0, 0, 15) 0");
        });
        doc.edge("(Codes: t 116, x 120, w 119, r 114, f 102, ; 59, . 46, digits 48 .. 57.)", TermsBySentenceTest::codes);
        doc.edge("Kinds: 0 WARD (w);", c -> c.run(Checks.townOf("t13;w2r2f2"), "ofWard(0, 0) 0; as(0, 0) 1; as(0, 1) CAST; "
            + "as(0, 2) CAST"));
        doc.edge("1 RICH (r), a WARD;", c -> c.run(Checks.townOf("t13;w2r2f2"), "ofWard(1, 0) 1; as(1, 0) 1; as(1, 1) 1; "
            + "as(1, 2) CAST"));
        doc.edge("2 FINE (f), a RICH.", c -> c.run(Checks.townOf("t13;w2r2f2"), "ofWard(2, 0) 2; as(2, 0) 1; as(2, 1) 1; "
            + "as(2, 2) 1"));
        anew(doc);
        doc.edge("MINDS, times SMELL at its CELL:", c -> {
            c.run(Checks.townOf("t16;w1r1f1w9r9f9"), "minds(0) 0; minds(1) 0; minds(2) 0; minds(3) 0; minds(4) 0; minds(5) 0");
            c.run(Checks.townBy("t14;x4w1r1f1", 0, 1), "minds(0) 3; minds(1) 4; minds(2) 4");
            c.run(Checks.townBy("t15;x9x9x9x9f9", 0, 1, 1, 1, 1), "minds(0) 520; burden() 520");
        });
        doc.edge("a WARD its NOSE;", c -> {
            c.run(Checks.townOf("t12;w1w9"), "ofWard(0, 3) 1; ofWard(1, 3) 9");
            c.run(Checks.townBy("t12;x9w9", 0, 1), "minds(0) 72");
        });
        doc.edge("a RICH one 1 more;", c -> {
            c.run(Checks.townOf("t12;r1r9"), "ofWard(0, 3) 2; ofWard(1, 3) 10");
            c.run(Checks.townBy("t12;x9r9", 0, 1), "minds(0) 80");
        });
        doc.edge("a FINE one twice what a RICH one does.", c -> {
            c.run(Checks.townOf("t12;f1f9"), "ofWard(0, 3) 4; ofWard(1, 3) 20");
            c.run(Checks.townBy("t12;x9f9", 0, 1), "minds(0) 160");
        });
    }

    private static void shape(Checks c) {
        for (int high = 1; high <= 4; high++) {
            for (int wide = 2; wide <= 6; wide++) {
                String row = ";" + ".".repeat(wide);
                String text = "t" + high + wide + row.repeat(high);
                c.run(Checks.townOf(text), "many(0) " + high * wide + "; smell(" + (high * wide - 1) + ") 0; "
                    + "smell(" + high * wide + ") UNKNOWN");
                c.text(text + row, -100 - text.length());
                c.text(text + ".", -100 - text.length());
                c.text(text.substring(0, text.length() - 1), -100 - (text.length() - 1));
                c.text("t" + high + wide + row.repeat(high - 1), -100 - (text.length() - wide - 1));
            }
        }
        c.text("t22;...;.", -106);
        c.text("t22;.;...", -105);
        c.text("t12..", -103);
        c.text("t12;;..", -104);
        c.text("t22;....", -106);
    }

    private static void firstFaults(Checks c) {
        c.text("q99", -100);
        c.text("tq9", -101);
        c.text("t19q", -102);
        c.text("t12q", -103);
        c.text("t12;q", -104);
        c.text("t12;wq", -105);
        c.text("t12;..;", -106);
        // The longest text has 41 codes.
        String longest = "t46;x1x1x1x1w1w1;w1w1w1w1..;......;......";
        c.text(longest, 6);
        c.text(longest + ".", -141);
        c.text(longest.substring(0, 40) + "x1", -140);
    }

    private static void tooMany(Checks c) {
        c.text("t15;x1x1x1x1x1", -112);
        c.text("t15;x1x1x1x1x", -112);
        c.text("t22;x1x1;x1x1", 0);
        c.text("t16;.x1x1x1x1w1", 1);
        c.text("t16;.x1x1x1x1x1", -113);
        c.text("t24;w1r1f1w1;r1f1w1.", -117);
        c.text("t24;w1r1f1w1;r1f1r1.", -117);
        c.text("t24;w1r1f1w1;r1f1f", -117);
        c.text("t24;w1r1f1w1;r1f1x1.", 6);
    }

    /** At each kind of place every code is tried: just those go on that may. */
    private static void codes(Checks c) {
        goOn(c, "", "t");
        goOn(c, "t", "1234");
        goOn(c, "t1", "23456");
        goOn(c, "t4", "23456");
        goOn(c, "t12", ";");
        goOn(c, "t12;", ".xwrf");
        goOn(c, "t13;.", ".xwrf");
        goOn(c, "t12;x", "123456789");
        goOn(c, "t12;w", "123456789");
        goOn(c, "t12;r", "123456789");
        goOn(c, "t12;f", "123456789");
        goOn(c, "t22;..", ";");
        goOn(c, "t12;..", "");
        goOn(c, "t16;x1x1x1x1", ".wrf");
        goOn(c, "t24;w1r1f1w1;r1f1", ".x");
        goOn(c, "t26;w1r1f1w1r1f1;x1x1x1x1", ".");
    }

    private static void goOn(Checks c, String ahead, String may) {
        int place = ahead.length();
        for (int code = -130; code <= 400; code++) {
            goOn(c, ahead, code, code > 0 && may.indexOf(code) >= 0 ? place + 1 : place);
        }
        for (int code : new int[] {MIN, MAX, 't' + 65536, '.' - 65536, '1' + 65536, '2' + (1 << 24), ';' + 65536}) {
            goOn(c, ahead, code, place);
        }
    }

    private static void goOn(Checks c, String ahead, int code, int place) {
        LeeVanes x = new LeeVanes();
        x.sheet(1, Checks.INTS, ahead.length() + 1);
        for (int i = 0; i < ahead.length(); i++) {
            x.put(1, i, ahead.charAt(i));
        }
        x.put(1, ahead.length(), code);
        c.due("town of " + ahead + " and " + code, x.town(1, Checks.INTS, 0, ahead.length() + 1), -100 - place);
    }

    private static void anew(ReadAlong doc) {
        doc.edge("A TEXT that is taken makes all anew,", TermsBySentenceTest::allAnew);
        doc.edge("but for SHEETS and TRACE:", c -> {
            LeeVanes x = prepared();
            c.run(x, "trace() 1; town(3, 0, 0, 16) 3; trace() 1; woo(0) 0; trace() 35; town(3, 0, 0, 16) 3; trace() 35; "
                + "town(3, 0, 0, 15) -115; trace() 35");
            c.run(x, "cell(0, 0, 0) 1; cell(0, 1, 0) 2; cell(0, 2, 0) 4; cell(1, 0, 1) 5; cell(2, 0, 0) LOST; fault() 1; "
                + "cell(3, 0, 0) 116; cell(3, 15, 0) 49");
        });
        doc.edge("the LAW is 0,", c -> {
            c.runEach(SMALL, "law(?) 0; town(3, 0, 0, 15) -115; many(3) ?; town(3, 0, 0, 16) 3; many(3) 0; law(0) 0", "1", "2");
            c.runEach(SMALL, "law(?) 0; town(3, 0, 0, 16) 3; town(3, 0, 0, 16) 3; many(3) 0; law(?) 0; town(3, 0, 0, 16) 3; "
                + "law(?) 0; town(3, 0, 0, 16) 3; many(3) 0; town(3, 0, 0, 16) 3; many(3) 0", "1", "2");
        });
        doc.edge("all VANES are 0,", c -> {
            c.runEach("t15;x1x2x3x4.", "turn(0, ?) 0; turn(1, ?) 0; turn(2, ?) 0; turn(3, ?) 0; town(3, 0, 0, 12) -112; "
                + "ofWork(0, 2) ?; ofWork(3, 2) ?; town(3, 0, 0, 13) 0; ofWork(0, 2) 0; ofWork(1, 2) 0; ofWork(2, 2) 0; "
                + "ofWork(3, 2) 0", "1", "2", "3");
            c.runEach(SMALL, "turn(0, ?) 0; turn(1, ?) 0; town(3, 0, 0, 16) 3; town(3, 0, 0, 16) 3; ofWork(0, 2) 0; "
                + "turn(1, ?) 0; town(3, 0, 0, 16) 3; turn(0, ?) 0; town(3, 0, 0, 16) 3; ofWork(0, 2) 0; ofWork(1, 2) 0; "
                + "town(3, 0, 0, 16) 3; ofWork(0, 2) 0; ofWork(1, 2) 0", "1", "2", "3");
        });
        doc.edge("no READINGS.", c -> {
            LeeVanes x = Checks.townOf(SMALL);
            for (int k = 0; k < 8; k++) {
                c.due("reading " + k, x.reading(0, 99), k);
            }
            c.run(x, "town(3, 0, 0, 15) -115; many(4) 8; settings(-1) 0; town(3, 0, 0, 16) 3; many(4) 0; settings(-1) 16; "
                + "laws() 7; back(1) OUTSIDE");
            c.run(x, "reading(0, 4) 0; laws() 1; town(3, 0, 0, 16) 3; many(4) 0; laws() 7; town(3, 0, 0, 16) 3; many(4) 0; "
                + "laws() 7");
        });
    }

    private static void allAnew(Checks c) {
        LeeVanes x = prepared();
        c.run(x, "many(0) 6; many(1) 2; many(2) 3; town(3, 0, 0, 15) -115; fault() 0; many(0) 6; many(1) 2; many(2) 3; "
            + "burden() 6; town(0, 0, 0, 3) -100");
        c.run(x, "town(3, 1, 0, 16) CAST; town(3, 3, 0, 16) OUTSIDE; many(0) 6; many(1) 2; many(2) 3; many(4) 1; burden() 6");
        c.due("a smaller town", Checks.take(x, "t12;x9f4"), 1);
        c.run(x, "many(0) 2; many(1) 1; many(2) 1; smell(0) 9; smell(2) UNKNOWN; ofWork(1, 0) UNKNOWN; ofWard(1, 0) UNKNOWN; "
            + "settings(-1) 4");
        c.run(x, "ofWork(0, 1) 9; ofWard(0, 0) 2; ofWard(0, 1) 4; ofWard(0, 2) 1; tell(0) 108; settings(1) NONE");
        c.due("a town with none", Checks.take(x, "t32;..;..;.."), 0);
        c.run(x, "many(0) 6; many(1) 0; many(2) 0; smell(0) 0; smell(5) 0; burden() 0; settings(-1) 1; tell(0) UNKNOWN; "
            + "ofWork(0, 0) UNKNOWN");
        c.due("a larger town", Checks.take(x, "t23;x1x2x3;w1r2f3"), 3);
        c.run(x, "many(0) 6; many(1) 3; many(2) 3; smell(0) 1; smell(1) 2; smell(2) 3; smell(3) 0; ofWard(2, 3) 8; "
            + "settings(-1) 64");
        noneLeft(c);
    }

    /** Of what earlier towns had nothing is left in one that has less. */
    private static void noneLeft(Checks c) {
        LeeVanes x = new LeeVanes();
        for (int taken = 0; taken < 2; taken++) {
            c.due("a full town", Checks.take(x, "t26;x9f9f9f9f9f9;x9x9x9f9.."), 6);
            c.run(x, "turn(0, 1) 0; turn(1, 1) 0; turn(2, 1) 0; turn(3, 1) 0; reading(0, 1) 0; law(2) 0");
        }
        for (int taken = 0; taken < 2; taken++) {
            c.due("a town with less", Checks.take(x, "t16;x9w1...."), 1);
            c.run(x, "turn(0, 1) 0; burden() 8; minds(0) 8; smell(1) 8; smell(2) 7; smell(5) 4; settings(-1) 4; best(-1) 0; "
                + "best(0) 0; calm(0) 0; vote(0, 0) 0; ballot(0) 0; bribe(0, 0) 0; bribe(0, 1) 1; round(0) 1; laws() 7; "
                + "odds(2, 7, 1) 4");
            c.due("another one", Checks.take(x, "t33;.w1.;w1x2w1;.w1."), 4);
            c.run(x, "best(-1) 1; calm(-1) 1; burden() 1; ballot(0) 0");
        }
        for (int taken = 0; taken < 2; taken++) {
            c.due("a work where a ward was", Checks.take(x, "t12;.x5"), 0);
            c.run(x, "smell(1) 5; burden() 0; best(-1) 0; calm(-1) 0; ballot(0) 0; bribe(0, 1) NONE");
        }
    }

    // ---- 2 smells

    private static void smells(ReadAlong doc) {
        doc.edge("2 A VANE: 0 up, 1 to the right, 2 down, 3 to the left.", c -> {
            int[] there = {1, 5, 7, 3};
            for (int v = 0; v < 4; v++) {
                LeeVanes x = Checks.townBy("t33;...;.x2.;...", 0, v);
                for (int cell = 0; cell < 9; cell++) {
                    c.due("vane " + v + ", cell " + cell, x.smell(cell), cell == 4 ? 2 : cell == there[v] ? 1 : 0);
                }
            }
        });
        doc.edge("A WORK smells as far as it is STRONG: k CELLS on that way (0 on; its own CELL, too) by STRONG less k,", c -> {
            c.run(Checks.townBy("t16;x8.....", 0, 1), "smell(0) 8; smell(1) 7; smell(2) 6; smell(3) 5; smell(4) 4; smell(5) 3");
            c.run(Checks.townBy("t42;x8.;..;..;..", 0, 2), "smell(0) 8; smell(2) 7; smell(4) 6; smell(6) 5; smell(1) 0; "
                + "smell(7) 0");
            c.runEach("t33;...;.x1.;...", "turn(0, ?) 0; smell(4) 1; smell(1) 0; smell(3) 0; smell(5) 0; smell(7) 0",
                "0", "1", "2", "3");
        });
        doc.edge("as long as there are CELLS", TermsBySentenceTest::fromCorners);
        doc.edge("and it is above 0;", c -> {
            for (int strong = 1; strong <= 9; strong++) {
                LeeVanes x = Checks.townBy("t16;x" + strong + ".....", 0, 1);
                for (int k = 0; k < 6; k++) {
                    c.due(strong + " strong, " + k + " on", x.smell(k), Math.max(0, strong - k));
                }
            }
            c.run(Checks.townBy("t16;x1.w1...", 0, 1), "minds(0) 0; burden() 0; law(2) 0; smell(2) 0; law(1) 2; smell(5) 0");
        });
        doc.edge("nothing stops it.", c -> {
            c.run(Checks.townBy("t16;x6x1w1r1f1.", 0, 1, 0), "smell(1) 6; smell(2) 4; smell(3) 3; smell(4) 2; smell(5) 1");
            c.run(Checks.townBy("t42;x9.;w1.;x1.;f1.", 0, 2, 2), "smell(2) 8; smell(4) 8; smell(6) 6; smell(7) 0");
            c.run(Checks.townBy("t14;x2x9w1.", 0, 1, 3), "smell(0) 10; smell(1) 10; smell(2) 0");
        });
        doc.edge("SMELL of a CELL: of what comes there, WORK by WORK by numbers: by LAW 0 all together;", c -> {
            c.run(Checks.townOf("t12;.."), "smell(0) 0; smell(1) 0");
            c.run(Checks.townBy("t14;x9x9x9x9", 0, 1, 1, 1, 1), "smell(0) 9; smell(1) 17; smell(2) 24; smell(3) 30");
            c.run(Checks.townBy("t13;x3.x3", 0, 1, 3), "smell(1) 4; smell(0) 4; smell(2) 4");
        });
        doc.edge("by LAW 1 the strongest;", c -> {
            c.run(Checks.townBy("t12;..", 1), "smell(0) 0; smell(1) 0");
            c.run(Checks.townBy("t14;x9x9x9x9", 1, 1, 1, 1, 1), "smell(0) 9; smell(3) 9");
            c.run(Checks.townBy("t14;x2x9x1.", 1, 1, 1, 1), "smell(0) 2; smell(1) 9; smell(2) 8; smell(3) 7");
            c.run(Checks.townBy("t14;x5.x3x9", 1, 1, 3, 0), "smell(1) 4; smell(0) 5; smell(2) 3; smell(3) 9");
        });
        doc.edge("by LAW 2 each next one by how much it and what there is differ (from 0 on).", c -> {
            c.run(Checks.townBy("t12;..", 2), "smell(0) 0; smell(1) 0");
            c.run(Checks.townBy("t12;x9.", 2, 1), "smell(0) 9; smell(1) 8");
            c.run(Checks.townBy("t13;x3.x3", 2, 1, 3), "smell(1) 0; smell(0) 2; smell(2) 2");
            // In cell 3 come 1, 2, 4 in this order: 1, 1, 3; in cell 2 come 2, 3, 5: 2, 1, 4.
            c.run(Checks.townBy("t15;x4x4x5..", 2, 1, 1, 1), "smell(0) 4; smell(1) 1; smell(2) 4; smell(3) 3; smell(4) 2");
            // In cell 3 come 2, 4, 1: 2, 2, 1; in cell 2 come 3, 5, 2: 3, 2, 0.
            c.run(Checks.townBy("t14;x5x6x2.", 2, 1, 1, 1), "smell(1) 2; smell(2) 0; smell(3) 1");
        });
        doc.edge("BURDEN: what all WARDS MIND together.", c -> {
            c.run(Checks.townBy("t12;x9.", 0, 1), "burden() 0");
            c.run(Checks.townOf("t12;w9w9"), "burden() 0");
            // To the six of them come 15, 13, 11, 9 and 5, 4.
            c.run(Checks.townBy("t26;x9x9w1w1w1w1;x9...w1w1", 0, 1, 1, 1), "minds(0) 15; minds(5) 4; burden() 57");
        });
    }

    private static void fromCorners(Checks c) {
        int[][] grids = {{15, 0, 0, 0, 0, 15, 7, 0, 0, 0, 0, 7, 8, 0, 0, 0, 0, 8, 9, 0, 0, 0, 0, 9},
            {9, 8, 7, 6, 5, 13, 0, 0, 0, 0, 0, 0, 0, 0, 0, 0, 0, 0, 9, 8, 7, 6, 5, 13},
            {9, 0, 0, 0, 0, 9, 8, 0, 0, 0, 0, 8, 7, 0, 0, 0, 0, 7, 15, 0, 0, 0, 0, 15},
            {13, 5, 6, 7, 8, 9, 0, 0, 0, 0, 0, 0, 0, 0, 0, 0, 0, 0, 13, 5, 6, 7, 8, 9}};
        for (int v = 0; v < 4; v++) {
            LeeVanes x = Checks.townBy("t46;x9....x9;......;......;x9....x9", 0, v, v, v, v);
            for (int cell = 0; cell < 24; cell++) {
                c.due("from the corners, vane " + v + ", cell " + cell, x.smell(cell), grids[v][cell]);
            }
        }
    }

    // ---- 3 votes

    private static void votes(ReadAlong doc) {
        doc.edge("3 A VOTE of a WARD on a WORK: the VANE (of 0 .. 3, all others as they are) by which it MINDS least:", c -> {
            // Where both come to the ward they leave nothing.
            LeeVanes x = Checks.townBy("t22;x2.;w1x2", 2, 0, 3);
            c.run(x, "vote(0, 0) 2; vote(0, 1) 0; turn(0, 2) 0; vote(0, 1) 3; vote(0, 0) 2; turn(1, 0) 3; vote(0, 0) 0; "
                + "vote(0, 1) 3");
            c.run(x, "ofWork(0, 2) 2; ofWork(1, 2) 0");
            c.run(Checks.townOf("t22;w9.;x2."), "vote(0, 0) 1; turn(0, 3) 0; vote(0, 0) 1");
        });
        doc.edge("of several the least.", c -> {
            c.run(Checks.townOf("t33;.w1.;w1x2w1;.w1."), "vote(0, 0) 1; vote(1, 0) 0; vote(2, 0) 0; vote(3, 0) 0");
            c.run(Checks.townBy("t22;x9.;.w1", 0, 3), "vote(0, 0) 0");
        });
        doc.edge("BALLOT on a WORK: the VANE that has the most VOTES:", c -> {
            c.run(Checks.townOf("t32;w1.;w1.;x5w9"), "vote(0, 0) 1; vote(1, 0) 1; vote(2, 0) 0; ballot(0) 1; turn(0, 3) 0; "
                + "ballot(0) 1");
            c.run(Checks.townBy("t22;x2.;w1x2", 2, 0, 3), "ballot(0) 2; turn(0, 2) 0; ballot(1) 3; ofWork(1, 2) 3");
        });
        doc.edge("of several the least", c -> {
            c.run(Checks.townOf("t32;w1.;..;x5w9"), "vote(0, 0) 1; vote(1, 0) 0; ballot(0) 0");
            c.run(Checks.townBy("t32;w1.;x2.;w1x2", 2, 0, 3), "vote(0, 0) 1; vote(1, 0) 2; ballot(0) 1");
            c.run(Checks.townBy("t23;w1x2.;x2w1x2", 2, 0, 0, 3), "vote(0, 0) 3; vote(1, 0) 2; ballot(0) 2");
        });
        doc.edge("(no WARDS: 0).", c -> c.run(Checks.townBy("t22;x9x1;..", 1, 3, 2), "ballot(0) 0; ballot(1) 0"));
        doc.edge("A YEAR: BALLOTS on all WORKS, by numbers, each VANE turned at once.", c -> {
            // Work 0 turns to the ward, for then nothing is left there; only so work 1 stays.
            c.run(Checks.townBy("t13;x3w1x3", 2, 0, 3), "ballot(0) 1; ballot(1) 0; year() 1; ofWork(0, 2) 1; ofWork(1, 2) 3; "
                + "year() 0");
            c.run(Checks.townBy("t13;x3w1x3", 2, 1, 0), "ballot(0) 0; ballot(1) 3; year() 1; ofWork(0, 2) 0; ofWork(1, 2) 0");
            c.run(Checks.townBy("t12;x9x9", 0, 3, 1), "year() 2; ofWork(0, 2) 0; ofWork(1, 2) 0; year() 0");
            c.run(Checks.townOf("t12;w1w1"), "year() 0");
        });
        doc.edge("ROUND: YEAR by YEAR VANES come to be as they were ahead at some time: how many YEARS till they are the first "
            + "time what they come to again,", TermsBySentenceTest::roundsTill);
        doc.edge("and behind how many YEARS they are so.", TermsBySentenceTest::roundsAgain);
        doc.edge("BEST: VANES of all by which the BURDEN is the least;", c -> {
            // All ways but to the left lead to a ward; the last of all settings.
            c.run(Checks.townOf("t44;.w1w1.;.x3x3w1;.x3x3w1;.w1w1."), "best(-1) 0; best(0) 3; best(1) 3; best(2) 3; best(3) 3; "
                + "best(4) NONE");
            c.run(Checks.townBy("t13;x2.w1", 0, 1), "best(-1) 0; best(0) 0; ofWork(0, 2) 1");
            // To the right 3, else 9.
            c.run(Checks.townOf("t33;.w9.;w9x2r2;.w9."), "best(-1) 3; best(0) 1; calm(-1) 3; calm(0) 1");
            c.run(Checks.townOf("t12;w1w1"), "best(-1) 0; best(0) NONE");
            c.run(Checks.townBy("t12;x9x9", 0, 3, 3), "best(-1) 0; best(0) 0; best(1) 0");
        });
        doc.edge("CALM: by which the most that one WARD MINDS is the least:", c -> {
            c.run(Checks.townOf("t44;.w1w1.;.x3x3w1;.x3x3w1;.w1w1."), "calm(-1) 0; calm(0) 3; calm(1) 3; calm(2) 3; calm(3) 3; "
                + "calm(4) NONE");
            // Up one minds 9, to the right two mind 6 and 4, else one more.
            c.run(Checks.townOf("t34;.w3..;w9x4w2w2;.w9.."), "best(-1) 9; best(0) 0; calm(-1) 6; calm(0) 1");
            c.run(Checks.townOf("t12;w1w1"), "calm(-1) 0; calm(0) NONE");
            c.run(Checks.townBy("t12;x9x9", 0, 3, 3), "calm(-1) 0; calm(0) 0; calm(1) 0");
        });
        doc.edge("of several the first as a row.", c -> {
            // By law 2 nothing is left where both come: 2 and 1, or 3 and 0. By law 1 there is the least then.
            LeeVanes x = Checks.townBy("t44;..w9.;.w2x2w9;w9x2w2.;.w9..", 2);
            c.run(x, "best(-1) 0; best(0) 2; best(1) 1; calm(-1) 0; calm(0) 2; calm(1) 1; law(1) 2; best(-1) 2; best(0) 2; "
                + "best(1) 1");
            // 4 each by 0 and 1, 1 and 0, 1 and 1.
            c.run(Checks.townOf("t43;.w2.;w9x3w2;w9x3w2;.w9."), "calm(-1) 4; calm(0) 0; calm(1) 1; best(-1) 6; best(0) 0; "
                + "best(1) 0");
            c.run(Checks.townBy("t13;x2.w1", 0, 3), "best(0) 0; calm(0) 0");
        });
        doc.edge("BRIBE for a WORK and a VANE: the fewest WARDS that are to VOTE for it in any case so that it wins the BALLOT: "
            + "as a set:", TermsBySentenceTest::bribes);
        doc.edge("of several the least;", c -> {
            // All vote 0: any four of six, any two of two.
            c.run(Checks.townOf("t26;x1.w1w1w1w1;..w1w1.."), "bribe(0, 3) 15; bribe(0, 1) 15");
            c.run(Checks.townOf("t23;x1.w1;w1w1."), "vote(0, 0) 0; vote(1, 0) 0; vote(2, 0) 0; bribe(0, 2) 3");
        });
        doc.edge("NONE: by none.", c -> {
            c.run(Checks.townOf("t12;x3."), "bribe(0, 0) 0; bribe(0, 1) NONE; bribe(0, 2) NONE; bribe(0, 3) NONE");
            c.run(Checks.townOf("t12;x3w1"), "bribe(0, 0) 0; bribe(0, 1) 1; bribe(0, 2) 1; bribe(0, 3) 1");
        });
    }

    private static void roundsTill(Checks c) {
        c.run(Checks.townOf("t12;w1."), "round(0) 0");
        roundTill(c, Checks.townOf("t12;x9x9"), 0);
        roundTill(c, Checks.townBy("t12;x9x9", 0, 3, 3), 1);
        roundTill(c, Checks.townBy("t14;f8x2x8x4", 2, 3, 0, 3), 0);
        roundTill(c, Checks.townBy("t14;x8x1x6r7", 2, 1, 2, 2), 1);
        roundTill(c, Checks.townBy("t42;.f9;.x9;.f9;x6x6", 2, 0, 0, 0), 0);
        roundTill(c, Checks.townBy("t32;r5x5;x8f4;.x4", 2, 3, 2, 1), 1);
        roundTill(c, Checks.townBy("t14;x1x4x7f7", 2, 0, 0, 1), 2);
        roundTill(c, Checks.townBy("t25;x7w1f8.x5;.x7x3.w4", 2, 0, 1, 0, 3), 2);
        roundTill(c, Checks.townBy("t14;x3r4x6x8", 2, 2, 1, 3), 3);
        roundTill(c, Checks.townBy("t16;x4x8f8w5x9x6", 2, 2, 3, 3, 1), 4);
    }

    /** So many years, and the vanes come again from then on alone: the rows of the years tell it. */
    private static void roundTill(Checks c, LeeVanes x, int till) {
        c.due("round(0)", x.round(0), till);
        List<String> years = years(x, 20);
        int first = 0;
        while (years.lastIndexOf(years.get(first)) == first) {
            first++;
        }
        c.due("the first that comes again: " + years, first, till);
    }

    private static void roundsAgain(Checks c) {
        c.run(Checks.townOf("t12;w1."), "round(1) 1");
        roundAgain(c, Checks.townOf("t12;x9x9"), 1);
        roundAgain(c, Checks.townBy("t12;x9x9", 0, 3, 3), 1);
        roundAgain(c, Checks.townBy("t42;.f9;.x9;.f9;x6x6", 2, 0, 0, 0), 2);
        roundAgain(c, Checks.townBy("t32;r5x5;x8f4;.x4", 2, 3, 2, 1), 2);
        roundAgain(c, Checks.townBy("t25;x7w1f8.x5;.x7x3.w4", 2, 0, 1, 0, 3), 2);
        roundAgain(c, Checks.townBy("t16;x4x8f8w5x9x6", 2, 2, 3, 3, 1), 1);
    }

    private static void roundAgain(Checks c, LeeVanes x, int again) {
        c.due("round(1)", x.round(1), again);
        List<String> years = years(x, 20);
        int ahead = years.subList(0, 19).lastIndexOf(years.get(19));
        c.due("as they were the last time: " + years, 19 - ahead, again);
    }

    /** The rows of vanes, year by year, as they are first. */
    private static List<String> years(LeeVanes x, int howMany) {
        List<String> years = new ArrayList<>();
        for (int y = 0; y < howMany; y++) {
            StringBuilder vanes = new StringBuilder();
            for (int w = 0; w < x.many(1); w++) {
                vanes.append(x.ofWork(w, 2));
            }
            years.add(vanes.toString());
            x.year();
        }
        return years;
    }

    private static void bribes(Checks c) {
        // It wins as it is: none. A bribed ward votes no more as it did.
        c.run(Checks.townOf("t32;w1.;w1.;x5w9"), "bribe(0, 1) 0; bribe(0, 0) 1; bribe(0, 2) 3; bribe(0, 3) 3");
        c.run(Checks.townOf("t32;w1.;.w1;x5w9"), "vote(0, 0) 1; vote(1, 0) 0; vote(2, 0) 0; bribe(0, 0) 0; bribe(0, 1) 2");
        // Ward 4 takes a vote from 0, so it alone is enough for 1 and for 2; wards 0 and 1 would be two, though a lesser number.
        LeeVanes x = Checks.townBy("t35;w4w8x4f9x9;x8.f2.r3;r1.x1..", 2, 1, 3, 1, 0);
        c.run(x, "vote(0, 0) 3; vote(1, 0) 3; vote(2, 0) 1; vote(3, 0) 2; vote(4, 0) 0; vote(5, 0) 0");
        c.run(x, "bribe(0, 0) 0; bribe(0, 1) 16; bribe(0, 2) 16; bribe(0, 3) 4; ofWork(0, 2) 1");
    }

    // ---- 4 how it smelt

    private static void readings(ReadAlong doc) {
        doc.edge("4 READINGS, 8 at most,", c -> {
            LeeVanes x = Checks.townOf(SMALL);
            for (int k = 0; k < 8; k++) {
                c.due("reading " + k, x.reading(k % 6, k), k);
            }
            c.run(x, "many(4) 8; reading(0, 0) FULL; many(4) 8; back(8) 0; many(4) 0; reading(0, 0) 0");
        });
        doc.edge("each numbered by how many there are ahead of it (the first one 0):",
            c -> c.run(Checks.townOf(SMALL), "reading(5, 9) 0; reading(5, 9) 1; back(1) 1; reading(0, 0) 1; back(2) 0; "
                + "reading(1, 1) 0"));
        doc.edge("a CELL had so much SMELL.", c -> {
            LeeVanes x = Checks.townBy("t13;x4.x2", 0, 1, 0);
            c.run(x, "reading(1, 3) 0; laws() 7; settings(-1) 3; settings(0) 1; back(1) 0; reading(1, 2) 0; laws() 0; "
                + "settings(-1) 0");
            c.run(x, "back(1) 0; reading(1, 4) 0; laws() 0; settings(-1) 1; settings(0) 1; settings(1) 3; back(1) 0; "
                + "reading(1, 0) 0");
            c.run(x, "laws() 0; settings(-1) 9; settings(0) 0; settings(1) 0; reading(1, 3) 1; settings(-1) 0; back(2) 0");
            c.run(x, "reading(1, 99) 0; settings(-1) 0; laws() 0; powers(0) 0");
        });
        doc.edge("All that follows: in place of what it is alone, by which all READINGS are so:", c -> {
            LeeVanes x = Checks.townBy("t13;x4.x2", 1, 1, 3);
            c.run(x, "settings(-1) 16; laws() 7; powers(0) 1022; powers(1) 1022; reading(1, 3) 0; settings(-1) 4; "
                + "settings(0) 1; settings(1) 0");
            c.run(x, "laws() 2; powers(0) 16; powers(1) 30; reading(2, 2) 1; settings(-1) 4; powers(0) 16; powers(1) 6");
            c.run(x, "reading(0, 4) 2; settings(-1) 4; powers(0) 16; laws() 2; reading(0, 3) 3; settings(-1) 0; laws() 0; "
                + "powers(0) 0");
            c.run(x, "many(3) 1; ofWork(0, 1) 4; ofWork(1, 1) 2; ofWork(0, 2) 1; ofWork(1, 2) 3");
        });
        doc.edge("SETTINGS of all VANES: how many, the first as a row;", c -> {
            LeeVanes x = Checks.townBy("t44;..w9.;.w2x2w9;w9x2w2.;.w9..", 2);
            c.run(x, "reading(2, 0) 0; reading(5, 0) 1; reading(7, 0) 2; reading(8, 0) 3; reading(10, 0) 4; reading(13, 0) 5");
            c.run(x, "settings(-1) 2; settings(0) 2; settings(1) 1; settings(2) NONE; law(0) 2; settings(-1) 0; "
                + "settings(0) NONE");
            c.run(x, "back(6) 0; reading(5, 1) 0; reading(10, 1) 1; settings(-1) 2; settings(0) 2; settings(1) 0");
            c.run(Checks.townOf("t15;x9x9x9x9."), "settings(-1) 256; settings(3) 0; reading(4, 26) 0; settings(-1) 1; "
                + "settings(0) 1; settings(3) 1");
            c.run(Checks.townOf("t22;x2x2;x2x2"), "reading(0, 4) 0; settings(-1) 16; settings(0) 0; settings(1) 3; "
                + "settings(2) 0; settings(3) 0; back(1) 0; reading(0, 2) 0; reading(3, 2) 1; settings(-1) 64");
            c.run(Checks.townOf("t12;.."), "settings(-1) 1; settings(0) NONE; reading(0, 0) 0; settings(-1) 1; "
                + "reading(1, 1) 1; settings(-1) 0");
        });
        doc.edge("LAWS, as a set;", c -> {
            LeeVanes x = Checks.townBy("t13;x3.x3", 0, 1, 3);
            c.run(x, "laws() 7; reading(1, 4) 0; laws() 1; law(2) 0; laws() 1; back(1) 0; reading(1, 2) 0; laws() 2; back(1) 0");
            c.run(x, "reading(1, 0) 0; laws() 4; reading(1, 2) 1; laws() 0; back(2) 0; turn(1, 0) 3; reading(1, 2) 0; "
                + "laws() 7; many(3) 2");
            c.run(Checks.townBy("t12;x3x2", 0, 1, 0), "reading(1, 2) 0; laws() 2; back(1) 0; reading(1, 4) 0; laws() 1");
        });
        doc.edge("POWERS of a WORK (1 .. 9 STRONG), as a set.", c -> {
            LeeVanes x = Checks.townBy("t16;x1.....", 0, 1);
            c.run(x, "powers(0) 1022; reading(5, 0) 0; powers(0) 62; back(1) 0; reading(5, 1) 0; powers(0) 64; back(1) 0");
            c.run(x, "reading(5, 4) 0; powers(0) 512; back(1) 0; reading(5, 5) 0; powers(0) 0; back(1) 0; reading(0, 1) 0; "
                + "powers(0) 2");
            c.run(x, "back(1) 0; reading(0, 0) 0; powers(0) 0; back(1) 0; reading(0, 9) 0; powers(0) 512; back(1) 0; "
                + "reading(0, 10) 0; powers(0) 0");
            c.run(x, "ofWork(0, 1) 1; smell(1) 0; many(4) 1");
        });
        doc.edge("ODDS of a CELL and so much: if each VANE is turned by chance, all four ways alike, "
            + "the share by which its SMELL is so much or more.", c -> {
            LeeVanes x = Checks.townBy("t14;x5..x3", 0, 3, 3);
            c.run(x, "odds(2, 2, 0) 7; odds(2, 2, 1) 16; odds(2, 3, 0) 1; odds(2, 3, 1) 4; odds(2, 4, 0) 1; odds(2, 4, 1) 16");
            c.run(x, "odds(2, 5, 0) 1; odds(2, 5, 1) 16; odds(2, 6, 0) 0; odds(2, 6, 1) 1; odds(2, 99, 0) 0; odds(2, 0, 0) 1; "
                + "odds(2, 0, 1) 1");
            c.run(x, "reading(2, 0) 0; odds(2, 1, 0) 7; turn(1, 0) 3; odds(2, 1, 0) 7; law(1) 0; odds(2, 5, 0) 0; "
                + "odds(2, 3, 0) 1; odds(2, 3, 1) 4");
            c.run(x, "law(2) 1; odds(2, 2, 0) 3; odds(2, 2, 1) 8; odds(2, 1, 0) 7; ofWork(0, 2) 3; ofWork(1, 2) 0; many(3) 2");
        });
    }

    // ---- 5 sheets, parts

    private static void sheets(ReadAlong doc) {
        doc.edge("5 SHEETS 0 .. 3 have nothing (at first),", c -> {
            c.runEach("", "lose(?) 0; put(?, 0, 1) NULL; cell(?, 0, 0) LOST; fault() 1; sheet(?, 0, 1) 1; put(?, 0, 1) 1; "
                + "lose(?) 1; lose(?) 0",
                "0", "1", "2", "3");
            c.runEach("", "lose(?) UNKNOWN; sheet(?, 0, 1) UNKNOWN; put(?, 0, 1) UNKNOWN; cell(?, 0, 0) LOST; fault() 0",
                "-1", "4");
        });
        doc.edge("or a row of 0 .. 60 numbers", TermsBySentenceTest::rows);
        doc.edge("(0 at first) of a LANE:", TermsBySentenceTest::zeros);
        doc.edge("0 bytes, 1 shorts, 2 ints;", c -> {
            c.run(new LeeVanes(), "sheet(0, 0, 1) 1; put(0, 0, 300) 1; cell(0, 0, 0) 44; sheet(1, 1, 1) 1; put(1, 0, 70000) 1; "
                + "cell(1, 0, 1) 4464");
            c.run(new LeeVanes(), "sheet(0, 2, 1) 1; put(0, 0, 70000) 1; cell(0, 0, 2) 70000; cell(0, 0, 0) LOST; "
                + "cell(0, 0, 1) LOST; fault() 2");
            c.run(new LeeVanes(), "sheet(0, 3, 1) OUTSIDE; sheet(0, -1, 1) OUTSIDE");
        });
        doc.edge("what comes to a cell of it is cut to its LANE (with its sign).", TermsBySentenceTest::cuts);
        telling(doc);
        doc.edge("RICH (2): what WARD's gives, and 100.", c -> {
            c.run(Checks.townOf("t13;w4r5f6"), "tell(1) 105; trace() 63; tell(1) 105; trace() 60606");
            c.run(Checks.townOf("t12;r1r9"), "tell(0) 101; tell(1) 109");
        });
        doc.edge("FINE (3): what RICH's gives, and what WARD's gives (RICH's left out).", c -> {
            c.run(Checks.townOf("t13;w4r5f6"), "tell(2) 112; trace() 91327");
            c.run(Checks.townOf("t12;f1f9"), "tell(0) 102; tell(1) 118");
        });
        doc.edge("WOOED by a lent body (4): the WARD's number;", c -> c.run(Checks.townOf("t15;w4r5f6w7r8"),
            "woo(0) 0; trace() 4; woo(1) 1; trace() 128; woo(3) 3; trace() 3972; woo(4) 4; trace() 123136"));
        doc.edge("FINE ones have their own (5): 60.",
            c -> c.run(Checks.townOf("t13;w4r5f6"), "woo(2) 60; trace() 5; woo(2) 60; trace() 160; woo(0) 0; trace() 4964"));
    }

    private static void telling(ReadAlong doc) {
        doc.edge("TELLING of WARDS by bodies that leave their number in TRACE (an int that wraps,", c -> {
            LeeVanes x = Checks.townOf("t13;w4r5f6");
            c.run(x, "tell(0) 4; tell(0) 4; tell(0) 4; tell(0) 4; tell(0) 4; tell(0) 4; tell(0) 4; trace() 917087137");
            c.run(x, "tell(0) 4; trace() -1635069824; tell(0) 4; trace() 852443009");
        });
        doc.edge("0 at first,", c -> {
            c.run(new LeeVanes(), "trace() 0");
            c.run(Checks.townOf("t13;w4r5f6"), "trace() 0; tell(3) UNKNOWN; woo(3) UNKNOWN; trace() 0");
        });
        doc.edge("becomes 31 times it and the number)",
            c -> c.run(Checks.townOf("t13;w4r5f6"), "tell(0) 4; trace() 1; tell(0) 4; trace() 32; woo(0) 0; trace() 996; "
                + "woo(2) 60; trace() 30881"));
        doc.edge("as they begin:", c -> {
            // 2 ahead of 1; 3 ahead of 2, 1 and 1.
            c.run(Checks.townOf("t13;w4r5f6"), "tell(1) 105; trace() 63");
            c.run(Checks.townOf("t13;w4r5f6"), "tell(2) 112; trace() 91327");
        });
        doc.edge("WARD (1): its NOSE.", c -> c.run(Checks.townOf("t13;w4w1w9"), "tell(0) 4; trace() 1; tell(1) 1; tell(2) 9; "
            + "trace() 993"));
    }

    private static void rows(Checks c) {
        for (int lane = 0; lane < 3; lane++) {
            LeeVanes x = new LeeVanes();
            c.run(x, "sheet(0, " + lane + ", 0) 1; put(0, 0, 1) INDEX; lose(0) 1; sheet(0, " + lane + ", 61) OUTSIDE; lose(0) 0");
            c.run(x, "sheet(0, " + lane + ", -1) SIZE; lose(0) 0; sheet(0, " + lane + ", 60) 1; put(0, 60, 1) INDEX");
            for (int i = 0; i < 60; i++) {
                c.due("put " + i, x.put(0, i, 60 - i), 1);
            }
            for (int i = 0; i < 60; i++) {
                c.due("cell " + i, x.cell(0, i, lane), 60 - i);
            }
            c.run(x, "lose(0) 1; sheet(0, " + lane + ", 4) 1; put(0, 3, 1) 1; put(0, 4, 1) INDEX");
            c.run(x, "sheet(0, " + lane + ", 1) 1; put(0, 1, 1) INDEX");
        }
    }

    private static void zeros(Checks c) {
        for (int lane = 0; lane < 3; lane++) {
            LeeVanes x = new LeeVanes();
            c.due("a row", x.sheet(0, lane, 60), 1);
            for (int i = 0; i < 60; i++) {
                c.due("cell " + i + " at first", x.cell(0, i, lane), 0);
                x.put(0, i, 60 - i);
            }
            c.due("a new row", x.sheet(0, lane, 60), 1);
            for (int i = 0; i < 60; i++) {
                c.due("cell " + i + " at first, again", x.cell(0, i, lane), 0);
            }
            c.run(x, "put(0, 3, 8) 1; lose(0) 1; sheet(0, " + lane + ", 4) 1; cell(0, 3, " + lane + ") 0");
        }
        c.run(new LeeVanes(), "sheet(1, 2, 5) 1; put(1, 4, 7) 1; sheet(1, 2, 2) 1; put(1, 2, 1) INDEX; sheet(1, 2, 5) 1; "
            + "cell(1, 4, 2) 0");
        c.run(new LeeVanes(), "sheet(1, 2, 5) 1; put(1, 4, 7) 1; sheet(1, 0, 5) 1; cell(1, 4, 0) 0; cell(1, 4, 2) LOST; "
            + "fault() 2");
    }

    private static void cuts(Checks c) {
        int[] numbers = {127, 128, 255, 256, -128, -129, 32767, 32768, 65535, 65536, -32768, -32769, MAX, MIN, -1};
        int[][] cut = {{127, -128, -1, 0, -128, 127, -1, 0, -1, 0, 0, -1, -1, 0, -1},
            {127, 128, 255, 256, -128, -129, 32767, -32768, -1, 0, -32768, 32767, -1, 0, -1}, numbers};
        for (int lane = 0; lane < 3; lane++) {
            LeeVanes x = new LeeVanes();
            x.sheet(lane, lane, numbers.length);
            for (int i = 0; i < numbers.length; i++) {
                c.due("put of " + numbers[i], x.put(lane, i, numbers[i]), 1);
                c.due("in lane " + lane + ", " + numbers[i], x.cell(lane, i, lane), cut[lane][i]);
            }
        }
        // A code of a text and a vane that is told are cut before they are taken.
        LeeVanes x = new LeeVanes();
        Checks.row(x, 0, Checks.BYTES, 't' + 256, '1', '2' - 256, ';', 'x', '3' + 512, 'w', '1');
        c.run(x, "town(0, 0, 0, 8) 1; put(0, 0, 257) 1; told(0, 0, 0, 1) 2; put(0, 0, -1) 1; told(0, 0, 0, 1) OUTSIDE");
    }
}
