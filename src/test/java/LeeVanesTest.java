/** Promise by promise: ordinary inputs, the edges that the document names, and wrong inputs; worked out by hand. */
public final class LeeVanesTest {
    private static final Checks C = new Checks();
    private static final int MIN = Checks.MIN, MAX = Checks.MAX;
    private static final long LOST = Long.MIN_VALUE;
    /** By hand: cell 0 a ward, 1 a work 4 strong, 2 a work 6 strong, 3 a fine ward, 4 nothing, 5 a work 3 strong. */
    private static final String TURNING = "t32;w4x4;x6f9;.x3";

    public static void main(String[] args) {
        newObject();
        townTaken();
        townFaultsOfTexts();
        townCounts();
        townTakesAsLane();
        townRefusals();
        townMakesAnew();
        wardsAndWorks();
        lawAndTurn();
        smellWays();
        smellByLaws();
        mindsAndBurden();
        told();
        toldRefusals();
        votesAndBallots();
        ballotTies();
        years();
        rounds();
        bestAndCalm();
        bestAndCalmDiffer();
        bribes();
        readingsAndBack();
        settingsLawsPowers();
        odds();
        sheets();
        putAndCell();
        copies();
        telling();
        wooing();
        asKind();
        faultOfLatest();
        many();
        C.end();
    }

    private static void due(String call, long got, long want) {
        C.due(call, got, want);
    }

    private static LeeVanes townOf(String text) {
        return Checks.townOf(text);
    }

    private static int faultOf(String text) {
        return Checks.take(new LeeVanes(), text);
    }

    // ---- 1 the town

    private static void newObject() {
        LeeVanes x = new LeeVanes();
        due("new: fault, ahead of any", x.fault(), 0);
        for (int what = 0; what < 5; what++) {
            due("new: many " + what, x.many(what), 0);
        }
        due("new: ofWard", x.ofWard(0, 0), -1);
        due("new: ofWork", x.ofWork(0, 0), -1);
        due("new: turn", x.turn(0, 0), -1);
        due("new: smell", x.smell(0), -1);
        due("new: minds", x.minds(0), -1);
        due("new: burden", x.burden(), -3);
        due("new: vote", x.vote(0, 0), -1);
        due("new: ballot", x.ballot(0), -1);
        due("new: bribe", x.bribe(0, 0), -1);
        due("new: reading", x.reading(0, 0), -1);
        due("new: back 0", x.back(0), 0);
        due("new: back 1", x.back(1), -2);
        due("new: powers", x.powers(0), -1);
        due("new: odds", x.odds(0, 0, 0), LOST);
        due("new: tell", x.tell(0), -1);
        due("new: woo", x.woo(0), -1);
        due("new: as", x.as(0, 0), -1);
        due("new: trace", x.trace(), 0);
        due("new: fault", x.fault(), 0);
        for (int k = 0; k < 4; k++) {
            due("new: lose " + k, x.lose(k), 0);
            due("new: put " + k, x.put(k, 0, 0), Checks.NULL);
        }
    }

    private static void townTaken() {
        due("the smallest town", faultOf("t12;.."), 0);
        due("two wards", faultOf("t13;x3w2r1"), 2);
        due("the largest town", faultOf("t46;......;......;......;......"), 0);
        due("as many works and wards as there may be", faultOf("t25;x1x2x3x4w1;r2f3w4r5f6"), 6);
        due("digits 9", faultOf("t12;x9f9"), 1);
        LeeVanes x = townOf("t25;x1x2x3x4w1;r2f3w4r5f6");
        due("cells", x.many(0), 10);
        due("works", x.many(1), 4);
        due("wards", x.many(2), 6);
    }

    private static void townFaultsOfTexts() {
        due("no codes", faultOf(""), -100);
        due("no t", faultOf("x12;.."), -100);
        due("t alone", faultOf("t"), -101);
        due("0 high", faultOf("t02;.."), -101);
        due("5 high", faultOf("t52;.."), -101);
        due("4 high, too soon", faultOf("t4"), -102);
        due("1 wide", faultOf("t11;."), -102);
        due("7 wide", faultOf("t17;......."), -102);
        due("6 wide, too soon", faultOf("t16"), -103);
        due("no ;", faultOf("t12.."), -103);
        due("a row is missing", faultOf("t22;.."), -106);
        due("a cell is missing", faultOf("t12;."), -105);
        due("a cell is missing ahead of a ;", faultOf("t22;.;.."), -105);
        due("a cell too many", faultOf("t12;..."), -106);
        due("a row too many", faultOf("t12;..;.."), -106);
        due("no such letter", faultOf("t12;.q"), -105);
        due("t is no cell", faultOf("t12;.t"), -105);
        due("a letter without a digit", faultOf("t12;.w"), -106);
        due("a letter and a nothing", faultOf("t12;w.."), -105);
        due("nose 0", faultOf("t12;w0."), -105);
        due("strong 0", faultOf("t12;.x0"), -106);
        due("a sign behind 9", faultOf("t12;.x:"), -106);
        due("a digit alone", faultOf("t12;5."), -104);
    }

    private static void townCounts() {
        due("a fifth work", faultOf("t15;x1x1x1x1x1"), -112);
        due("a fifth work without a digit", faultOf("t15;x1x1x1x1x"), -112);
        due("a seventh ward", faultOf("t24;w1r1f1w1;r1f1w1."), -117);
        due("a seventh, rich", faultOf("t24;w1r1f1w1;r1f1r1."), -117);
        due("a seventh, fine", faultOf("t24;w1r1f1w1;r1f1f1."), -117);
        due("a work behind six wards", faultOf("t24;w1r1f1w1;r1f1x1."), 6);
        due("a ward behind four works", faultOf("t23;x1x1x1;x1w1."), 1);
    }

    private static void townTakesAsLane() {
        LeeVanes x = new LeeVanes();
        int[] codes = {7, 't', '1', '2' + 256, ';', '.', '.' + 65536, 7};
        Checks.row(x, 0, Checks.BYTES, codes);
        Checks.row(x, 1, Checks.SHORTS, codes);
        Checks.row(x, 2, Checks.INTS, codes);
        due("bytes", x.town(0, 0, 1, 6), 0);
        due("shorts", x.town(1, 1, 1, 6), -102);
        due("ints", x.town(2, 2, 1, 6), -102);
        x.put(1, 3, '2');
        x.put(2, 3, '2');
        due("shorts, cut", x.town(1, 1, 1, 6), 0);
        due("ints, not cut", x.town(2, 2, 1, 6), -105);
        due("one code more", x.town(0, 0, 1, 7), -106);
        due("one code less", x.town(0, 0, 1, 5), -105);
        Checks.row(x, 0, Checks.INTS, 't', MIN, MAX, -1);
        due("a number far below", x.town(0, 2, 0, 4), -101);
        x.put(0, 1, MAX);
        due("a number far above", x.town(0, 2, 0, 4), -101);
        x.put(0, 1, '1');
        x.put(0, 2, '2');
        due("a number below 0", x.town(0, 2, 0, 4), -103);
        due("none beyond the codes that are told", x.town(0, 2, 0, 3), -103);
    }

    private static void townRefusals() {
        LeeVanes x = new LeeVanes();
        for (int k : new int[] {-1, 4, MIN, MAX}) {
            due("no such sheet " + k, x.town(k, -1, -1, -1), -1);
        }
        due("no such lane, nothing", x.town(0, 3, -1, -1), -2);
        due("lane -1", x.town(0, -1, 0, 0), -2);
        due("nothing is no cast", x.town(0, 0, -1, -1), Checks.NULL);
        due("its fault", x.fault(), 1);
        x.sheet(0, 1, 5);
        due("a cast ahead of a size", x.town(0, 0, -1, -1), Checks.CAST);
        due("its fault", x.fault(), 2);
        due("a size ahead of an index", x.town(0, 1, -1, -1), Checks.SIZE);
        due("its fault", x.fault(), 4);
        due("from -1 on", x.town(0, 1, -1, 0), Checks.INDEX);
        due("its fault", x.fault(), 3);
        due("from 5 on, none", x.town(0, 1, 5, 0), -100);
        due("it came to none", x.fault(), 0);
        due("from 6 on, none", x.town(0, 1, 6, 0), Checks.INDEX);
        due("one beyond", x.town(0, 1, 3, 3), Checks.INDEX);
        due("far beyond", x.town(0, 1, 3, MAX), Checks.INDEX);
        due("from far on", x.town(0, 1, MAX, MAX), Checks.INDEX);
        due("all of zeros", x.town(0, 1, 0, 5), -100);
    }

    private static void townMakesAnew() {
        LeeVanes x = townOf("t13;x3w2r1");
        x.turn(0, 1);
        x.law(2);
        x.reading(1, 2);
        x.tell(0);
        due("a text with a fault", Checks.take(x, "t12;x9w"), -107);
        due("it leaves the cells", x.many(0), 3);
        due("it leaves the wards", x.many(2), 2);
        due("it leaves the vane", x.ofWork(0, 2), 1);
        due("it leaves the strength", x.ofWork(0, 1), 3);
        due("it leaves the law", x.many(3), 2);
        due("it leaves the readings", x.many(4), 1);
        due("it leaves the burden", x.burden(), 6);
        due("a refused one", x.town(3, 0, 0, 50), Checks.INDEX);
        due("it leaves the burden, too", x.burden(), 6);
        due("a town that is taken", Checks.take(x, "t12;x4w1"), 1);
        due("the law is 0", x.many(3), 0);
        due("the vanes are 0", x.ofWork(0, 2), 0);
        due("no readings", x.many(4), 0);
        due("any setting will do", x.settings(-1), 4);
        due("sheets stay", x.cell(3, 0, 0), 't');
        due("trace stays", x.trace(), 1);
        due("the old work is gone", x.smell(0), 4);
        due("the same again", x.town(3, 0, 0, 8), 1);
    }

    private static void wardsAndWorks() {
        LeeVanes x = townOf("t22;w3x5;r3f3");
        int[][] wards = {{0, 3, 0, 3}, {1, 3, 2, 4}, {2, 3, 3, 8}};
        for (int k = 0; k < 3; k++) {
            for (int what = 0; what < 4; what++) {
                due("ofWard " + k + " " + what, x.ofWard(k, what), wards[k][what]);
            }
        }
        for (int what : new int[] {-1, 4, MIN, MAX}) {
            due("ofWard, what " + what, x.ofWard(0, what), -2);
            due("ofWard, both wrong", x.ofWard(3, what), -1);
        }
        for (int k : new int[] {-1, 3, MIN, MAX}) {
            due("ofWard " + k, x.ofWard(k, 0), -1);
            due("ofWork " + k, x.ofWork(k, 0), -1);
        }
        due("ofWork, cell", x.ofWork(0, 0), 1);
        due("ofWork, strong", x.ofWork(0, 1), 5);
        due("ofWork, vane", x.ofWork(0, 2), 0);
        x.turn(0, 3);
        due("ofWork, vane turned", x.ofWork(0, 2), 3);
        due("ofWork, what 3", x.ofWork(0, 3), -2);
        due("ofWork, what -1", x.ofWork(0, -1), -2);
        due("ofWork, no second work", x.ofWork(1, 3), -1);
    }

    private static void lawAndTurn() {
        LeeVanes x = new LeeVanes();
        due("law 3 without a town", x.law(3), -2);
        due("law 0 without a town", x.law(0), -3);
        Checks.take(x, "t12;x3w2");
        due("law 2", x.law(2), 0);
        due("law 1", x.law(1), 2);
        due("law 3", x.law(3), -2);
        due("law -1", x.law(-1), -2);
        due("law 0", x.law(0), 1);
        due("turn to 1", x.turn(0, 1), 0);
        due("turn to 3", x.turn(0, 3), 1);
        due("turn to 3 again", x.turn(0, 3), 3);
        due("turn to 4", x.turn(0, 4), -2);
        due("turn to -1", x.turn(0, -1), -2);
        due("no such work", x.turn(1, 4), -1);
        due("work -1", x.turn(-1, 0), -1);
        due("the vane stayed", x.ofWork(0, 2), 3);
    }

    // ---- 2 smells

    private static void smellWays() {
        LeeVanes x = townOf("t35;.....;..x3..;.....");
        int[][] ways = {{7, 3, 2, 2}, {7, 3, 8, 2, 9, 1}, {7, 3, 12, 2}, {7, 3, 6, 2, 5, 1}};
        for (int v = 0; v < 4; v++) {
            x.turn(0, v);
            int[] want = new int[15];
            for (int i = 0; i < ways[v].length; i += 2) {
                want[ways[v][i]] = ways[v][i + 1];
            }
            for (int c = 0; c < 15; c++) {
                due("vane " + v + ", smell " + c, x.smell(c), want[c]);
            }
        }
        due("smell -1", x.smell(-1), -1);
        due("smell 15", x.smell(15), -1);
        due("smell far", x.smell(MAX), -1);
        LeeVanes y = townOf("t23;..x9;...");
        y.turn(0, 1);
        due("it does not go round the edge", y.smell(3), 0);
        LeeVanes z = townOf("t14;x2x9w1.");
        z.turn(0, 1);
        z.turn(1, 3);
        due("a work stops nothing", z.smell(0), 10);
        LeeVanes u = townOf("t42;x9.;w1.;x1.;..");
        u.turn(0, 2);
        due("down all the rows", u.smell(6), 6);
        due("where another work stands", u.smell(4), 8);
    }

    private static void smellByLaws() {
        LeeVanes x = townOf("t25;x5x3.x2x4;.....");
        Checks.turnAll(x, 1, 1, 3, 3);
        // In cell 2 come 3, 2, 1, 2, in the order of the works.
        due("law 0", x.smell(2), 8);
        x.law(1);
        due("law 1", x.smell(2), 3);
        x.law(2);
        due("law 2: 3, 1, 0, 2", x.smell(2), 2);
        due("law 2 at the third work: 2, 1, 1, 2", x.smell(3), 2);
        due("law 2, nothing comes", x.smell(7), 0);
        LeeVanes y = townOf("t13;x1x1x4");
        y.turn(2, 3);
        y.law(2);
        due("law 2 goes by numbers", y.smell(0), 1);
        LeeVanes z = townOf("t14;x9x9x9x9");
        Checks.turnAll(z, 1, 1, 1, 1);
        due("law 0, all of them", z.smell(3), 30);
    }

    private static void mindsAndBurden() {
        LeeVanes x = townOf("t14;x5w3r3f3");
        x.turn(0, 1);
        due("a ward", x.minds(0), 12);
        due("a rich one", x.minds(1), 12);
        due("a fine one", x.minds(2), 16);
        due("burden", x.burden(), 40);
        due("minds -1", x.minds(-1), -1);
        due("minds 3", x.minds(3), -1);
        x.turn(0, 0);
        due("nothing comes", x.minds(0), 0);
        due("no burden", x.burden(), 0);
        due("no wards, no burden", townOf("t12;x9.").burden(), 0);
    }

    private static void told() {
        LeeVanes x = townOf("t24;x5w3r3f3;x2...");
        Checks.row(x, 0, Checks.BYTES, 1, 0, 1, 3, 257, 2);
        due("vanes 1, 0", x.told(0, 0, 0, 2), 40);
        due("vanes 0, 1", x.told(0, 0, 1, 2), 0);
        due("as bytes", x.told(0, 0, 4, 2), 40);
        due("the vanes stay", x.ofWork(0, 2), 0);
        due("the burden stays", x.burden(), 0);
        x.turn(0, 1);
        due("in place of all", x.told(0, 0, 1, 2), 0);
        Checks.row(x, 1, Checks.SHORTS, 1, 0);
        Checks.row(x, 2, Checks.INTS, 1, 0);
        due("shorts", x.told(1, 1, 0, 2), 40);
        due("ints", x.told(2, 2, 0, 2), 40);
        LeeVanes y = townOf("t13;x3w1x3");
        y.law(2);
        Checks.row(y, 0, Checks.INTS, 1, 3, 3, 1);
        due("by the law", y.told(0, 2, 0, 2), 0);
        due("work by work", y.told(0, 2, 1, 2), 2);
        due("both away", y.told(0, 2, 2, 2), 0);
        LeeVanes z = townOf("t12;w1.");
        z.sheet(0, 2, 0);
        due("no works", z.told(0, 2, 0, 0), 0);
    }

    private static void toldRefusals() {
        LeeVanes x = new LeeVanes();
        due("told, no such sheet", x.told(4, 3, -1, -1), -1);
        due("told, sheet -1", x.told(-1, 3, -1, -1), -1);
        due("told, no such lane", x.told(0, 3, -1, -1), -2);
        due("told, lane -1", x.told(0, -1, -1, -1), -2);
        due("told, no town", x.told(0, 2, -1, -1), -3);
        due("it is refused", x.fault(), 0);
        Checks.take(x, "t13;x3w1x3");
        due("told, nothing", x.told(0, 2, -1, -1), Checks.NULL);
        due("told, fault", x.fault(), 1);
        Checks.row(x, 0, Checks.INTS, 0, 3, 4, 0, -1);
        due("told, cast", x.told(0, 1, -1, -1), Checks.CAST);
        due("told, size", x.told(0, 2, -1, -1), Checks.SIZE);
        due("told, index ahead of how many", x.told(0, 2, 4, 2), Checks.INDEX);
        due("told, fault", x.fault(), 3);
        due("told, index -1", x.told(0, 2, -1, 2), Checks.INDEX);
        due("told, none from beyond on", x.told(0, 2, 6, 0), Checks.INDEX);
        due("told, none from the end on", x.told(0, 2, 5, 0), -2);
        due("it is refused, too", x.fault(), 0);
        due("told, one too few", x.told(0, 2, 0, 1), -2);
        due("told, one too many", x.told(0, 2, 0, 3), -2);
        due("told, a 4", x.told(0, 2, 1, 2), -2);
        due("told, a -1", x.told(0, 2, 3, 2), -2);
        due("told, 0 and 3", x.told(0, 2, 0, 2), 2);
    }

    // ---- 3 votes

    private static void votesAndBallots() {
        LeeVanes x = townOf(TURNING);
        x.law(2);
        Checks.turnAll(x, 3, 0, 3);
        // To ward 0 come 3 and 5 as it stands; to ward 1 nothing.
        due("ward 0, work 0: 5, 5, 5, 2", x.vote(0, 0), 3);
        due("ward 1, work 0: 0, 0, 3, 0", x.vote(1, 0), 0);
        due("ward 0, work 1: 2, 3, 3, 3", x.vote(0, 1), 0);
        due("ward 1, work 1: 0, 5, 0, 0", x.vote(1, 1), 0);
        due("ward 1, work 2: 2, 0, 0, 0", x.vote(1, 2), 1);
        due("ward 0, work 2: all alike", x.vote(0, 2), 0);
        due("the vanes stay", x.ofWork(0, 2), 3);
        due("ballot 0: 3 and 0 have one each", x.ballot(0), 0);
        due("ballot 1", x.ballot(1), 0);
        due("ballot 2: 0 and 1 have one each", x.ballot(2), 0);
        for (int no : new int[] {-1, 3, MIN, MAX}) {
            due("vote, no work", x.vote(0, no), -1);
            due("vote, no ward", x.vote(no, 0), -1);
            due("ballot, no work", x.ballot(no), -1);
        }
        due("vote, ward 2", x.vote(2, 0), -1);
        LeeVanes none = townOf("t12;x3.");
        none.turn(0, 2);
        due("no wards", none.ballot(0), 0);
    }

    private static void ballotTies() {
        // Two wards above the work want it to go right, one on the right wants it up.
        LeeVanes x = townOf("t32;w1.;w1.;x5w9");
        due("the upper", x.vote(0, 0), 1);
        due("the right", x.vote(2, 0), 0);
        due("the most votes, not the most minded", x.ballot(0), 1);
        LeeVanes y = townOf("t32;w9.;..;x5w1");
        due("as many votes: the least vane", y.ballot(0), 0);
    }

    private static void years() {
        LeeVanes x = new LeeVanes();
        due("year without a town", x.year(), -3);
        x = townOf(TURNING);
        x.law(2);
        Checks.turnAll(x, 3, 0, 3);
        due("the first year", x.year(), 2);
        vanes(x, 0, 0, 0);
        due("the second year, each turned at once", x.year(), 2);
        vanes(x, 2, 1, 0);
        due("the third year", x.year(), 2);
        vanes(x, 0, 0, 0);
        LeeVanes still = townOf("t12;x3.");
        still.turn(0, 2);
        due("no wards: it goes up", still.year(), 1);
        due("and stays", still.year(), 0);
        due("no works", townOf("t12;w1.").year(), 0);
    }

    private static void vanes(LeeVanes x, int... want) {
        for (int w = 0; w < want.length; w++) {
            due("vane of work " + w, x.ofWork(w, 2), want[w]);
        }
    }

    private static void rounds() {
        LeeVanes x = new LeeVanes();
        due("round 2 without a town", x.round(2), -2);
        due("round -1 without a town", x.round(-1), -2);
        due("round 0 without a town", x.round(0), -3);
        due("round 1 without a town", x.round(1), -3);
        x = townOf(TURNING);
        x.law(2);
        Checks.turnAll(x, 3, 0, 3);
        due("years till then", x.round(0), 1);
        due("behind two years again", x.round(1), 2);
        vanes(x, 3, 0, 3);
        x.year();
        due("in it", x.round(0), 0);
        due("in it, two", x.round(1), 2);
        LeeVanes y = townOf("t13;x3x7w2");
        y.law(2);
        Checks.turnAll(y, 0, 1);
        due("two years till it stands", y.round(0), 2);
        due("it stands", y.round(1), 1);
        LeeVanes z = townOf("t16;r5r5x3r1x7x9");
        z.law(2);
        Checks.turnAll(z, 1, 0, 3);
        due("three years till it stands", z.round(0), 3);
        due("it stands, too", z.round(1), 1);
        due("no works", townOf("t12;w1.").round(1), 1);
    }

    private static void bestAndCalm() {
        LeeVanes x = new LeeVanes();
        due("best -2 without a town", x.best(-2), -1);
        due("best -1 without a town", x.best(-1), -3);
        due("best 9 without a town", x.best(9), -3);
        due("calm -2 without a town", x.calm(-2), -1);
        due("calm -1 without a town", x.calm(-1), -3);
        due("calm 9 without a town", x.calm(9), -3);
        // All ways lead to a ward, but left of the first work and right of the second.
        x = townOf("t33;.w1w1;.x1x2;.r1f1");
        due("best", x.best(-1), 0);
        due("best, work 0", x.best(0), 0);
        due("best, work 1: up is a ward", x.best(1), 1);
        due("calm, work 1", x.calm(1), 1);
        due("best, no work 2", x.best(2), -9);
        due("calm, no work 2", x.calm(2), -9);
        due("best, far", x.best(MAX), -9);
        due("best, far below", x.best(MIN), -1);
        due("calm, far below", x.calm(MIN), -1);
        x.turn(1, 2);
        due("whatever the vanes are", x.best(1), 1);
        vanes(x, 0, 2);
        due("no wards", townOf("t12;x3.").calm(-1), 0);
        due("no works", townOf("t12;w3.").best(0), -9);
        due("no works, the burden", townOf("t12;w3.").best(-1), 0);
    }

    private static void bestAndCalmDiffer() {
        // A ring of wards about one work 4 strong, so 3 comes to each neighbour.
        LeeVanes x = townOf("t43;.w2.;.w2.;w9x4w4;.w9.");
        due("up: 2 times 3, 2 times 2: 10; right: 12", x.best(-1), 10);
        due("best goes up", x.best(0), 0);
        due("up: 6 at most", x.calm(-1), 6);
        due("calm goes up", x.calm(0), 0);
        LeeVanes y = townOf("t43;.w3.;.w3.;w9x4w4;.w9.");
        due("up: 3 times 3, 3 times 2: 15; right: 12", y.best(-1), 12);
        due("best goes right", y.best(0), 1);
        due("up: 9 at most; right: 12", y.calm(-1), 9);
        due("calm goes up, too", y.calm(0), 0);
        LeeVanes parted = townOf("t34;.w3..;w9x4w2w2;.w9..");
        due("up: 9; right: 6 and 4", parted.best(-1), 9);
        due("best goes up, where one minds 9", parted.best(0), 0);
        due("6 at most", parted.calm(-1), 6);
        due("calm goes right, where two mind 10", parted.calm(0), 1);
        LeeVanes z = townOf("t13;x3f1x3");
        due("of several the first as a row", z.best(0), 0);
        due("the last, too", z.best(1), 0);
        // By law 2 two smells cancel each other where either alone would not.
        LeeVanes u = townOf("t33;w9w9.;x4w1x4;w9w9.");
        u.law(2);
        due("by law 2", u.best(-1), 0);
        due("by law 2, work 0", u.best(0), 1);
        due("by law 2, work 1", u.best(1), 3);
        u.law(0);
        due("by law 0", u.best(-1), 0);
        due("by law 0, work 0", u.best(0), 3);
        due("by law 0, work 1", u.best(1), 0);
    }

    private static void bribes() {
        // Wards 0 and 1 vote for 1, ward 2 for 0.
        LeeVanes x = townOf("t32;w1.;w1.;x5w9");
        due("it wins as it is", x.bribe(0, 1), 0);
        due("one more for 0", x.bribe(0, 0), 1);
        due("two for 2: 2 and one other", x.bribe(0, 2), 3);
        due("two for 3", x.bribe(0, 3), 3);
        due("bribe, 4", x.bribe(0, 4), -2);
        due("bribe, -1", x.bribe(0, -1), -2);
        due("bribe, no work", x.bribe(1, 4), -1);
        due("bribe, work -1", x.bribe(-1, 0), -1);
        LeeVanes y = townOf("t32;w9.;..;x5w1");
        due("a tie is won by the least", y.bribe(0, 0), 0);
        due("a tie is lost by the other: ward 1 turns to it", y.bribe(0, 1), 2);
        due("both for 3", y.bribe(0, 3), 3);
        LeeVanes none = townOf("t12;x3.");
        due("no wards, 0 wins", none.bribe(0, 0), 0);
        due("no wards, none other does", none.bribe(0, 1), -9);
        LeeVanes six = townOf("t26;x1w1w1w1w1w1;.w1....");
        due("six for 0: four of them, the least", six.bribe(0, 3), 15);
        due("the vanes stay", six.ofWork(0, 2), 0);
    }

    // ---- 4 how it smelt

    private static void readingsAndBack() {
        LeeVanes x = townOf("t13;x3w2.");
        for (int c : new int[] {-1, 3, MIN, MAX}) {
            due("reading, no cell", x.reading(c, 100), -1);
        }
        due("reading, 100", x.reading(0, 100), -2);
        due("reading, -1", x.reading(0, -1), -2);
        due("reading, 99", x.reading(0, 99), 0);
        due("reading, 0", x.reading(2, 0), 1);
        due("how many", x.many(4), 2);
        due("back 3", x.back(3), -2);
        due("back -1", x.back(-1), -2);
        due("back far", x.back(MIN), -2);
        due("back 0", x.back(0), 2);
        due("the first one stands", x.settings(-1), 0);
        due("back 1", x.back(1), 1);
        due("the first one stands still", x.settings(-1), 0);
        due("back the first", x.back(1), 0);
        due("none stand", x.settings(-1), 4);
        for (int k = 0; k < 8; k++) {
            due("reading " + k, x.reading(0, 3), k);
        }
        due("full", x.reading(0, 3), -4);
        due("no cell ahead of full", x.reading(3, 3), -1);
        due("outside ahead of full", x.reading(0, 100), -2);
        due("back 9", x.back(9), -2);
        due("back 8", x.back(8), 0);
    }

    private static void settingsLawsPowers() {
        LeeVanes x = new LeeVanes();
        due("settings -2 without a town", x.settings(-2), -1);
        due("settings -1 without a town", x.settings(-1), -3);
        due("settings 9 without a town", x.settings(9), -3);
        due("laws without a town", x.laws(), -3);
        x = townOf("t14;x5..x3");
        // In cell 2 there are 3 or 0 by the first work, 2 or 0 by the second.
        x.reading(2, 2);
        due("the first away, the second to the left", x.settings(-1), 3);
        due("the first of them, work 0", x.settings(0), 0);
        due("the first of them, work 1", x.settings(1), 3);
        due("no work 2", x.settings(2), -9);
        due("settings, far below", x.settings(MIN), -1);
        due("as it is, nothing comes there", x.laws(), 0);
        due("and no power brings it", x.powers(0), 0);
        x.turn(1, 3);
        due("now it does by any law", x.laws(), 7);
        due("work 1 is 3 strong", x.powers(1), 8);
        due("work 0 may be as strong as you like", x.powers(0), 1022);
        due("its strength stays", x.ofWork(0, 1), 5);
        x.turn(0, 1);
        due("not so any more", x.laws(), 0);
        x.back(1);
        x.reading(2, 3);
        due("the strongest", x.laws(), 2);
        x.law(1);
        due("by law 1 work 1 is 1 .. 4 strong", x.powers(1), 30);
        due("by law 1 three with the second anywhere", x.settings(-1), 4);
        due("the first as a row", x.settings(1), 0);
        x.law(2);
        due("the law stays", x.many(3), 2);
        x.back(1);
        x.reading(2, 1);
        due("how much they differ", x.laws(), 4);
        due("by law 2 work 0 has 1 or 3 there", x.powers(0), 40);
        x.reading(0, 99);
        due("not all readings are so", x.powers(0), 0);
        due("no settings", x.settings(-1), 0);
        due("no first one", x.settings(0), -9);
        for (int w : new int[] {-1, 2, MIN, MAX}) {
            due("powers, no work", x.powers(w), -1);
        }
        LeeVanes none = townOf("t12;..");
        due("no works: the one setting", none.settings(-1), 1);
        due("no works: no vane", none.settings(0), -9);
    }

    private static void odds() {
        LeeVanes x = townOf("t14;x5..x3");
        due("0 or more", x.odds(2, 0, 0), 1);
        due("0 or more, of", x.odds(2, 0, 1), 1);
        due("1 or more: 7", x.odds(2, 1, 0), 7);
        due("of 16", x.odds(2, 1, 1), 16);
        due("3 or more: 4 of 16", x.odds(2, 3, 0), 1);
        due("in least terms", x.odds(2, 3, 1), 4);
        due("5 or more: 1", x.odds(2, 5, 0), 1);
        due("5 or more: of 16", x.odds(2, 5, 1), 16);
        due("6 or more: 0", x.odds(2, 6, 0), 0);
        due("of 1", x.odds(2, 6, 1), 1);
        due("99", x.odds(2, 99, 0), 0);
        x.law(1);
        due("by the law", x.odds(2, 5, 0), 0);
        x.turn(0, 3);
        x.reading(2, 0);
        due("vanes and readings do not matter", x.odds(2, 1, 0), 7);
        due("the vane stays", x.ofWork(0, 2), 3);
        for (int c : new int[] {-1, 4, MIN, MAX}) {
            due("odds, no cell", x.odds(c, 0, 0), LOST);
        }
        due("odds, 100", x.odds(0, 100, 0), LOST);
        due("odds, -1", x.odds(0, -1, 0), LOST);
        due("odds, which 2", x.odds(0, 0, 2), LOST);
        due("odds, which -1", x.odds(0, 0, -1), LOST);
        LeeVanes four = townOf("t15;x9x9x9x9.");
        due("all four to the right: of 256", four.odds(4, 26, 1), 256);
        due("that is 1 of them", four.odds(4, 26, 0), 1);
        due("the last one has all ways in its own cell: of 64", four.odds(3, 30, 1), 64);
    }

    // ---- 5 sheets, parts

    private static void sheets() {
        LeeVanes x = new LeeVanes();
        for (int k : new int[] {-1, 4, MIN, MAX}) {
            due("sheet, none such", x.sheet(k, 3, 61), -1);
            due("lose, none such", x.lose(k), -1);
        }
        due("sheet, lane 3", x.sheet(0, 3, -1), -2);
        due("sheet, lane -1", x.sheet(0, -1, 1), -2);
        due("sheet, 61", x.sheet(0, 0, 61), -2);
        due("it is refused", x.fault(), 0);
        due("sheet, size", x.sheet(0, 0, -1), Checks.SIZE);
        due("its fault", x.fault(), 4);
        due("sheet, far below", x.sheet(0, 0, MIN), Checks.SIZE);
        due("it has nothing still", x.lose(0), 0);
        due("sheet, 0", x.sheet(0, 0, 0), 1);
        due("a row of none is not nothing", x.put(0, 0, 1), Checks.INDEX);
        due("lose it", x.lose(0), 1);
        due("sheet, 60", x.sheet(0, 2, 60), 1);
        due("the last cell", x.put(0, 59, 7), 1);
        due("its number", x.cell(0, 59, 2), 7);
        due("a size leaves the row", x.sheet(0, 2, -1), Checks.SIZE);
        due("its number still", x.cell(0, 59, 2), 7);
        due("a new row", x.sheet(0, 2, 60), 1);
        due("0 at first", x.cell(0, 59, 2), 0);
        x.put(0, 1, 5);
        due("a shorter one", x.sheet(0, 1, 1), 1);
        due("it is shorter", x.cell(0, 1, 1), LOST);
        due("lose that", x.lose(0), 1);
        due("lose nothing", x.lose(0), 0);
        due("nothing to put in", x.put(0, 0, 1), Checks.NULL);
    }

    private static void putAndCell() {
        LeeVanes x = new LeeVanes();
        for (int k : new int[] {-1, 4, MIN, MAX}) {
            due("put, none such", x.put(k, -1, 0), -1);
            due("cell, none such", x.cell(k, 0, 3), LOST);
        }
        due("put, nothing", x.put(2, -1, 0), Checks.NULL);
        due("cell, nothing is no cast", x.cell(2, -1, 1), LOST);
        due("its fault", x.fault(), 1);
        int[] numbers = {127, 128, -129, 32767, 32768, -32769, MAX, MIN};
        long[][] cut = {{127, -128, 127, -1, 0, -1, -1, 0}, {127, 128, -129, 32767, -32768, 32767, -1, 0},
            {127, 128, -129, 32767, 32768, -32769, MAX, MIN}};
        for (int lane = 0; lane < 3; lane++) {
            x.sheet(lane, lane, numbers.length);
            for (int i = 0; i < numbers.length; i++) {
                due("put", x.put(lane, i, numbers[i]), 1);
                due("lane " + lane + ": " + numbers[i], x.cell(lane, i, lane), cut[lane][i]);
            }
        }
        for (int i : new int[] {-1, 8, MIN, MAX}) {
            due("put, index", x.put(0, i, 1), Checks.INDEX);
            due("its fault", x.fault(), 3);
            due("cell, index", x.cell(0, i, 0), LOST);
            due("its fault", x.fault(), 3);
            due("cell, cast ahead of index", x.cell(0, i, 1), LOST);
            due("its fault", x.fault(), 2);
        }
        due("cell, lane 3", x.cell(0, 0, 3), LOST);
        due("it is refused", x.fault(), 0);
        due("cell, lane -1", x.cell(3, 0, -1), LOST);
        due("it is refused", x.fault(), 0);
        due("put sets fault to none", x.put(0, 0, 1), 1);
        due("none", x.fault(), 0);
    }

    private static void copies() {
        LeeVanes x = new LeeVanes();
        for (int k : new int[] {-1, 4, MIN, MAX}) {
            due("copy, none such", x.copy(k, 0, 0, 0, 0), -1);
            due("copy, no such other", x.copy(0, 0, k, 0, 0), -1);
        }
        due("copy, nothing", x.copy(0, -1, 1, -1, -1), Checks.NULL);
        Checks.row(x, 0, Checks.BYTES, 1, 2, 3, 4, 5);
        due("copy, the other has nothing", x.copy(0, -1, 1, -1, -1), Checks.NULL);
        due("copy, the first has nothing", x.copy(1, -1, 0, -1, -1), Checks.NULL);
        Checks.row(x, 1, Checks.SHORTS, 6, 7, 8);
        Checks.row(x, 2, Checks.BYTES, 6, 7, 8);
        due("copy, unlike", x.copy(0, -1, 1, -1, -1), Checks.CAST);
        due("its fault", x.fault(), 2);
        int[][] wrong = {{-1, 0, 1}, {0, -1, 1}, {0, 0, -1}, {6, 0, 0}, {0, 4, 0}, {4, 0, 2}, {0, 1, 3}, {0, 0, 4},
            {MAX, 0, MAX}, {0, MAX, MAX}, {0, 0, MAX}, {0, 0, MIN}, {1, 1, MAX}};
        for (int[] w : wrong) {
            due("copy from " + w[0] + " to " + w[1] + ", " + w[2], x.copy(0, w[0], 2, w[1], w[2]), Checks.INDEX);
            due("its fault", x.fault(), 3);
        }
        due("copy none at the ends", x.copy(0, 5, 2, 3, 0), 0);
        due("copy three", x.copy(0, 2, 2, 0, 3), 3);
        row(x, 2, 3, 4, 5);
        row(x, 0, 1, 2, 3, 4, 5);
        due("forward over itself", x.copy(0, 0, 0, 1, 4), 4);
        row(x, 0, 1, 1, 2, 3, 4);
        due("backward over itself", x.copy(0, 1, 0, 0, 4), 4);
        row(x, 0, 1, 2, 3, 4, 4);
    }

    private static void row(LeeVanes x, int sheet, int... want) {
        for (int i = 0; i < want.length; i++) {
            due("cell " + i + " of sheet " + sheet, x.cell(sheet, i, 0), want[i]);
        }
    }

    private static void telling() {
        LeeVanes x = townOf("t13;w4r5f6");
        due("a ward", x.tell(0), 4);
        due("1", x.trace(), 1);
        due("a rich one", x.tell(1), 105);
        due("1, 2, 1", x.trace(), (1 * 31 + 2) * 31 + 1);
        due("a fine one", x.tell(2), 112);
        due("1, 2, 1, 3, 2, 1, 1", x.trace(), ((((1024 * 31 + 3) * 31 + 2) * 31) + 1) * 31 + 1);
        due("tell 3", x.tell(3), -1);
        due("tell -1", x.tell(-1), -1);
        int trace = x.trace();
        for (int k = 0; k < 40; k++) {
            x.tell(0);
            trace = trace * 31 + 1;
        }
        due("it wraps", x.trace(), trace);
    }

    private static void wooing() {
        LeeVanes x = townOf("t22;w4r5;f6w1");
        due("ward 0", x.woo(0), 0);
        due("4", x.trace(), 4);
        due("ward 1, rich", x.woo(1), 1);
        due("4, 4", x.trace(), 128);
        due("ward 2, fine", x.woo(2), 60);
        due("4, 4, 5", x.trace(), 128 * 31 + 5);
        due("ward 3", x.woo(3), 3);
        due("ward 4", x.woo(4), -1);
        due("ward -1", x.woo(-1), -1);
        due("4, 4, 5, 4", x.trace(), (128 * 31 + 5) * 31 + 4);
    }

    private static void asKind() {
        LeeVanes x = townOf("t13;w4r5f6");
        int[][] want = {{1, Checks.CAST, Checks.CAST}, {1, 1, Checks.CAST}, {1, 1, 1}};
        for (int k = 0; k < 3; k++) {
            for (int kind = 0; kind < 3; kind++) {
                due("ward " + k + " as " + kind, x.as(k, kind), want[k][kind]);
                due("its fault", x.fault(), want[k][kind] == 1 ? 0 : 2);
            }
            due("as 3", x.as(k, 3), -2);
            due("as -1", x.as(k, -1), -2);
        }
        due("no ward", x.as(3, 3), -1);
        due("ward -1", x.as(-1, 0), -1);
        due("as leaves no trace", x.trace(), 0);
    }

    private static void faultOfLatest() {
        LeeVanes x = townOf("t12;w4x3");
        String[] calls = {"town", "told", "sheet", "put", "cell", "copy", "as"};
        for (int good = 0; good < 3; good++) {
            for (int call = 0; call < calls.length; call++) {
                x.put(2, 0, 0);
                due("a fault of put", x.fault(), 1);
                callThatNamesFaults(x, call, good);
                due(calls[call] + (good == 0 ? " that is refused" : " that came to none"), x.fault(), 0);
            }
        }
        x.put(2, 0, 0);
        x.ofWard(9, 0);
        x.ofWork(0, 9);
        x.law(9);
        x.turn(0, 9);
        x.smell(99);
        x.reading(99, 0);
        x.odds(99, 0, 0);
        x.lose(9);
        x.lose(1);
        x.lose(2);
        x.tell(0);
        x.woo(0);
        x.year();
        x.many(9);
        due("calls that name none leave it", x.fault(), 1);
        due("and so does fault", x.fault(), 1);
    }

    private static void callThatNamesFaults(LeeVanes x, int call, int good) {
        Checks.row(x, 0, Checks.INTS, 1);
        x.put(2, 0, 0);
        int k = good == 0 ? 9 : 0;
        switch (call) {
            case 0: x.town(k, 2, 0, 1); break;
            case 1: x.told(k, 2, 0, good == 2 ? 0 : 1); break;
            case 2: x.sheet(k, 2, 1); break;
            case 3: x.put(k, 0, 1); break;
            case 4: x.cell(k, 0, 2); break;
            case 5: x.copy(0, 0, k, 0, 1); break;
            default: x.as(k, 0); break;
        }
    }

    private static void many() {
        LeeVanes x = townOf("t43;.w2.;.r2.;x9x4f4;.w9.");
        x.law(1);
        x.reading(0, 0);
        x.reading(0, 0);
        x.reading(0, 0);
        int[] want = {12, 2, 4, 1, 3};
        for (int what = 0; what < 5; what++) {
            due("many " + what, x.many(what), want[what]);
        }
        for (int what : new int[] {-1, 5, MIN, MAX}) {
            due("many " + what, x.many(what), -2);
        }
    }
}
