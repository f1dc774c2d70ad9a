/** Each promise by hand: ordinary calls, the edges that the document names, and what is refused. */
public final class PromiseTest {
    private static final int NONE = RockingTable.NONE;
    private static final int HIDDEN = RockingTable.HIDDEN;
    /** GAPS -2, 2, -2, 2; TILT 5 at each TURNING. */
    private static final String FOUR = "g5,3,4,8;ct2;ct3";
    /** GAPS by ANGLE 1: 5, 0, -5, 5, 0, -5; by ANGLE 2: 5, -5, 0, 5, -5, 0. */
    private static final String SIX = "g9,2,3,1,3,2";

    private PromiseTest() {
    }

    private static void due(String call, long got, long want) {
        Check.due(call, got, want);
    }

    private static void due(String call, boolean got, boolean want) {
        Check.due(call, got, want);
    }

    public static void main(String[] args) {
        newObject();
        tape();
        texts();
        told();
        wishes();
        gapsAndTilts();
        stands();
        levels();
        within();
        best();
        sawn();
        wedges();
        rocked();
        anglesAndSteady();
        likely();
        apart();
        cheapAndPiles();
        trialsAndFlips();
        planes();
        acts();
        images();
        counts();
        manyCalls();
        Check.finish("PromiseTest");
    }

    // 1
    private static void newObject() {
        RockingTable table = new RockingTable();
        for (int what = 0; what < 8; what++) {
            due("new: count " + what, table.count(what), what == 5 ? NONE : 0);
        }
        Check.noHeight("new: height(0)", table, 0);
        due("new: shorter", table.shorter(0), NONE);
        due("new: card", table.card(0, 0), NONE);
        due("new: within", table.within(0, 0, 0), NONE);
        due("new: heights", table.heights(0, 0), HIDDEN);
        due("new: likely", table.likely(0, 0, 0), NONE);
        due("new: heap", table.heap(0, 0), NONE);
        due("new: undo", table.undo(), NONE);
        due("new: back", table.back(), NONE);
        due("new: wish", table.wish(0), false);
        due("new: text(0)", table.text(0), NONE);
        due("new: text(1)", table.text(1), NONE);
    }

    // 2, 3
    private static void tape() {
        RockingTable table = new RockingTable();
        due("bytes of 0 are left out", table.feed(0x00670031, 0, 0x2C000000, 0x00000032, 0xFF), 5);
        due("nothing fed", table.feed(0, 0, 0, 0, 0), 5);
        due("the highest first: fault behind g1,2", table.fault(0), 4);
        due("end beyond", table.end(6), false);
        due("end below 0", table.end(-1), false);
        due("end at all", table.end(5), true);
        due("end(4)", table.end(4), true);
        due("count(4)", table.count(4), 4);
        due("fault", table.fault(0), 4);
        due("feed goes on", table.feed(0x2C332C34, 0, 0, 0, 0), 8);
        due("fault", table.fault(0), NONE);
        due("end(0)", table.end(0), true);
        for (int i = 1; i <= 8; i++) {
            due("feed twenty", table.feed(0x20202020, 0x20202020, 0x20202020, 0x20202020, 0x20202020), 20 * i);
        }
        due("a byte too many", table.feed(0, 0, 0, 0, 1), NONE);
        due("nothing still fits", table.feed(0, 0, 0, 0, 0), 160);
        due("end(159)", table.end(159), true);
        due("two too many", table.feed(1, 0, 0, 0, 1), NONE);
        due("refused: as it was", table.count(4), 159);
        due("one fits", table.feed(0, 0, 0, 0, 1 << 31), 160);
        due("a byte above 127 is a FAULT", table.fault(0), 159);
        due("end(157)", table.end(157), true);
        for (int i = 0; i < 5; i++) {
            int four = 0x01020304;
            due("four bytes, three fit: number " + i, table.feed(i == 0 ? four : 0, i == 1 ? four : 0,
                    i == 2 ? four : 0, i == 3 ? four : 0, i == 4 ? four : 0), NONE);
        }
        due("refused: as it was", table.count(4), 157);
        due("three bytes fit", table.feed(0, 0x01000000, 0x00010000, 0, 0x00000100), 160);
    }

    // 4, 5 (FAULTS by FaultTest)
    private static void texts() {
        RockingTable table = new RockingTable();
        due("tape", Check.tape(table, FOUR), 16);
        due("text(2)", table.text(2), NONE);
        due("text(-1)", table.text(-1), NONE);
        due("refused: the TAPE stays", table.count(4), 16);
        due("a GARDEN is no WISH", table.text(1), NONE);
        due("text(0)", table.text(0), 4);
        due("the TAPE is empty then", table.count(4), 0);
        Check.tape(table, "y:g");
        due("a WISH is no GARDEN", table.text(0), NONE);
        due("refused: the GARDEN stays", table.gap(0), -2);
        due("fault changes nothing", table.fault(0), 0);
        due("the GARDEN stays", table.gap(0), -2);
        due("a WISH", table.text(1), 0);
        for (int i = 1; i < 4; i++) {
            Check.tape(table, "y:" + i);
            due("WISH " + i, table.text(1), i);
        }
        Check.tape(table, "y:4");
        due("a fifth WISH", table.text(1), NONE);
        due("refused: the TAPE stays", table.count(4), 3);
        due("four WISHES", table.count(3), 4);
        due("rock", table.rock(0, 1), 1);
        due("saw", table.saw(0, 1), 1);
        due("image", table.image(), 4);
        due("wish", table.wish(3), true);
        Check.tape(table, "g1,1,1,1,1,1;ta2z7");
        due("another GARDEN", table.text(0), 6);
        due("POINTS", table.count(0), 6);
        due("ANGLE", table.count(1), 2);
        due("sorts", table.count(2), 0);
        due("WISHES stay", table.count(3), 4);
        due("none holds", table.count(5), NONE);
        due("ROCKED is gone", table.count(6), 0);
        due("ACTS are gone", table.undo(), NONE);
        due("the IMAGE is gone", table.back(), NONE);
        due("SHORT", table.less(), 7);
    }

    // 6, 7, 8
    private static void told() {
        RockingTable table = Check.garden("c;g00,99,7,07,1,2;tx5w9z99a2;ct20n9;cn0;ct3");
        int[] heights = {0, 99, 7, 7, 1, 2};
        for (int i = 0; i < 6; i++) {
            due("height " + i, table.height(i), heights[i]);
        }
        Check.noHeight("height(6)", table, 6);
        Check.noHeight("height(-1)", table, -1);
        Check.noHeight("height(24)", table, 24);
        due("shorter(0)", table.shorter(0), 9);
        due("shorter(1)", table.shorter(1), 5);
        due("shorter(2)", table.shorter(2), 0);
        due("shorter(3)", table.shorter(3), 99);
        due("shorter(-1)", table.shorter(-1), NONE);
        due("shorter(4)", table.shorter(4), NONE);
        int[][] cards = {{1, 1}, {20, 9}, {1, 0}, {3, 1}};
        for (int sort = 0; sort < 4; sort++) {
            due("THICK " + sort, table.card(sort, 0), cards[sort][0]);
            due("MANY " + sort, table.card(sort, 1), cards[sort][1]);
        }
        due("card(4, 0)", table.card(4, 0), NONE);
        due("card(-1, 0)", table.card(-1, 0), NONE);
        due("card(0, 2)", table.card(0, 2), NONE);
        due("card(0, -1)", table.card(0, -1), NONE);
        due("one sort less", Check.garden("g1,2,3,4;c;c;c").card(3, 0), NONE);
    }

    // 9
    private static void wishes() {
        RockingTable table = new RockingTable();
        Check.tape(table, "y:p");
        due("a WISH without GARDEN", table.text(1), 0);
        due("no GARDEN", table.wish(0), false);
        Check.tape(table, FOUR);
        due("text(0)", table.text(0), 4);
        due("wish(1)", table.wish(1), false);
        due("wish(-2)", table.wish(-2), false);
        due("wish(0)", table.wish(0), true);
        due("it holds", table.count(5), 0);
        due("wish(4)", table.wish(4), false);
        due("refused: it still holds", table.count(5), 0);
        due("wish(-1)", table.wish(-1), true);
        due("none", table.count(5), NONE);
    }

    // 10, 11
    private static void gapsAndTilts() {
        RockingTable table = Check.garden(FOUR);
        int[] gaps = {-2, 2, -2, 2};
        for (int p = 0; p < 4; p++) {
            due("gap " + p, table.gap(p), gaps[p]);
            due("tilt " + p, table.tilt(p), 5);
        }
        due("gap(-1)", table.gap(-1), HIDDEN);
        due("gap(4)", table.gap(4), HIDDEN);
        due("tilt(-1)", table.tilt(-1), NONE);
        due("tilt(4)", table.tilt(4), NONE);
        // across: 9+1, 2+3, 3+2, 1+9, ..; ANGLE 1: 10-5, 5-5, 5-10, ..
        table = Check.garden(SIX);
        int[] six = {5, 0, -5, 5, 0, -5};
        for (int p = 0; p < 6; p++) {
            due("six: gap " + p, table.gap(p), six[p]);
        }
        due("six: tilt 0", table.tilt(0), 8);
        due("six: tilt 1", table.tilt(1), 1);
        // ANGLE 2, behind: leg 1 on POINT p + 2
        table = Check.garden("ta2;" + SIX);
        int[] two = {5, -5, 0, 5, -5, 0};
        for (int p = 0; p < 6; p++) {
            due("ANGLE 2: gap " + p, table.gap(p), two[p]);
        }
        // legs REACH 5-1, 3-2, 4-4, 8-8
        table = Check.garden("g5,3,4,8;tw1x2y4z8");
        due("SHORT: gap 0", table.gap(0), 4 + 0 - 1 - 0);
        due("SHORT: tilt 0", table.tilt(0), 4);
        due("widest GAP", Check.garden("g99,0,99,0;tx99z99").gap(0), 396);
        due("widest GAP below 0", Check.garden("g0,99,0,99;tw99y99").gap(0), -396);
        due("TILT by legs 1 and 3", Check.garden("g1,9,1,0").tilt(0), 9);
        due("TILT by legs 0 and 2", Check.garden("g1,9,8,9").tilt(0), 7);
    }

    // 12
    private static void stands() {
        RockingTable table = Check.garden(SIX);
        // GAPS 5, 0, -5, 5, 0, -5
        long[][] all = {{1, 0, 1}, {2, 1, 2}, {4, 0, 1}, {5, 1, 2}};
        due("six: how many", table.stands(-1, 0), 4);
        for (int i = 0; i < 4; i++) {
            for (int what = 0; what < 3; what++) {
                due("six: stands " + i + " " + what, table.stands(i, what), all[i][what]);
            }
        }
        due("stands(4, 0)", table.stands(4, 0), NONE);
        due("stands(-2, 0)", table.stands(-2, 0), NONE);
        due("stands(0, 3)", table.stands(0, 3), NONE);
        due("stands(0, -1)", table.stands(0, -1), NONE);
        due("stands(-1, 1)", table.stands(-1, 1), NONE);
        due("stands(-1, -1)", table.stands(-1, -1), NONE);
        // leg 1 SHORT by 1: GAPS -1, 3, -1, 3
        table = Check.garden("g5,3,4,8;tx1");
        due("a fraction above", table.stands(0, 1), 1);
        due("below", table.stands(0, 2), 4);
        due("the next one above", table.stands(1, 1), 3);
        due("below", table.stands(1, 2), 4);
        due("the last one goes round", table.stands(3, 0), 3);
        // SHORT by 3: GAPS 1, 5, 1, 5
        due("it never STANDS: none", Check.garden("g5,3,4,8;tx3").stands(-1, 0), 0);
        due("it never STANDS", Check.garden("g5,3,4,8;tx3").stands(0, 0), NONE);
        // GAPS 10, -2
        due("made plain: above", Check.garden("g8,2,8,8;tx4").stands(0, 1), 5);
        due("made plain: below", Check.garden("g8,2,8,8;tx4").stands(0, 2), 6);
    }

    // 13
    private static void levels() {
        RockingTable table = Check.garden(FOUR);
        long[] want = {0, 1, 2, 3, 1};
        for (int what = 0; what < 5; what++) {
            due("level " + what, table.level(what), want[what]);
        }
        due("level(5)", table.level(5), NONE);
        due("level(-1)", table.level(-1), NONE);
        due("never STANDS", Check.garden("g5,3,4,8;tx3").level(0), NONE);
        // apart by legs 0 and 2: 1, -5, -1, 5; by 1 and 3: -5 - x, -1 - x, 5 - x, 1 - x with x = 1; GAPS -1, 3, -1, 3
        // at 0 and 1/4: -1/2 and -5; at 1 and 3/4: -2 and 5/2; at 2 and 1/4: 1/2 and 3; at 3 and 3/4: 2 and -9/2
        table = Check.garden("g5,3,4,8;tx1");
        long[] other = {1, 3, 4, 5, 2};
        for (int what = 0; what < 5; what++) {
            due("SHORT: level " + what, table.level(what), other[what]);
        }
        table = Check.garden("g3,3,3,3");
        long[] flat = {0, 0, 1, 0, 1};
        for (int what = 0; what < 5; what++) {
            due("flat: level " + what, table.level(what), flat[what]);
        }
    }

    // 14
    private static void within() {
        RockingTable table = Check.garden(SIX);
        // at 1, between 2 and 3, at 4, between 5 and 0
        due("from 0 by 0", table.within(0, 0, 0), NONE);
        due("from 0 by 1", table.within(0, 1, 0), 1);
        due("from 1 by 0", table.within(1, 0, 0), 1);
        due("its fraction below", table.within(1, 0, 2), 1);
        due("from 2 by 0", table.within(2, 0, 0), NONE);
        due("from 2 by 1", table.within(2, 1, 0), 2);
        due("its fraction above", table.within(2, 1, 1), 1);
        due("its fraction below", table.within(2, 1, 2), 2);
        due("from 5 by 1, going round", table.within(5, 1, 0), 5);
        due("from 3 by all", table.within(3, 6, 0), 4);
        due("too far", table.within(3, 7, 0), NONE);
        due("span below 0", table.within(3, -1, 0), NONE);
        due("p below 0", table.within(-1, 1, 0), NONE);
        due("p beyond", table.within(6, 1, 0), NONE);
        due("what 3", table.within(1, 1, 3), NONE);
        due("what -1", table.within(1, 1, -1), NONE);
        due("none", Check.garden("g5,3,4,8;tx3").within(0, 4, 0), NONE);
        // GAPS 0, 4, 0, 4 and on: from 1 round to 0
        table = Check.garden("g5,3,4,8;tx2");
        due("from 3 by 1, going round", table.within(3, 1, 0), 0);
        due("from 3 by 0", table.within(3, 0, 0), NONE);
    }

    private static long worth(RockingTable table, int wish, String text) {
        Check.tape(table, text);
        due("text(1) of " + text, table.text(1), wish);
        due("wish", table.wish(wish), true);
        return table.best(1);
    }

    // 15
    private static void best() {
        RockingTable table = Check.garden("g5,3,4,8;tx1");
        // GAPS -1, 3, -1, 3; all REACH 19 together; TILT 6, 5, 4, 5
        due("best(0)", table.best(0), 0);
        due("best(1)", table.best(1), 1);
        due("best(2)", table.best(2), HIDDEN);
        due("best(-1)", table.best(-1), HIDDEN);
        due("least 10-p", worth(table, 0, "y:10-p"), 7);
        due("at 3", table.best(0), 3);
        due("all letters", worth(table, 1, "y:g*1000+t*100+s*n-p"), -1000 + 400 + 76 - 2);
        due("at 2", table.best(0), 2);
        due("first CLAUSE that holds", worth(table, 2, "y:!g<0&p>1?p-9;y:g<0|g>9?1;y:2"), -6);
        due("at 3", table.best(0), 3);
        due("none holds: 0", worth(table, 3, "y:p=9?1"), 0);
        due("of several the lowest", table.best(0), 0);
        due("wish(-1)", table.wish(-1), true);
        due("GAP without its sign again", table.best(1), 1);
        String[] texts = {"y:9999*9999", "y:0-9999*9999", "y:9999*9999/1000", "y:0-9999*9999-1", "y:7/2", "y:[0-7]/2",
            "y:7/0", "y:2-3-4", "y:2+3*4", "y:[2+3]*4", "y:24/4/3", "y:24/[4*3]*5", "y:9999*9999-1+2",
            "y:1=1|1=2&1=2?5", "y:(1=1|1=2)&1=2?5", "y:!1=1|1=1?5", "y:!(1=1|1=1)?5", "y:!!1=1?5", "y:1>1?5;y:1<2?6;y:7",
            "y:2>1?8;y:9", "y:[[[[[[3]]]]]]", "y:0007", "y: 1 + 2 * 3 = 7 & 1 < 2 ? 4 ; y : 5"};
        long[] want = {1000000, -1000000, 1000, -1000000, 3, -3,
            0, -5, 14, 20, 2, 10, 1000000,
            5, 0, 5, 0, 5, 6,
            8, 3, 7, 4};
        for (int i = 0; i < texts.length; i++) {
            due("WORTH of " + texts[i], worth(Check.garden(FOUR), 0, texts[i]), want[i]);
        }
    }

    // 16, 17
    private static void sawn() {
        RockingTable table = Check.garden(FOUR);
        due("sawn(0, 0)", table.sawn(0, 0), 1);
        due("sawn(0, 1)", table.sawn(0, 1), 2);
        due("sawn(1, 0)", table.sawn(1, 0), 0);
        due("sawn(1, 2)", table.sawn(1, 2), NONE);
        due("sawn(1, -1)", table.sawn(1, -1), NONE);
        due("sawn(4, 0)", table.sawn(4, 0), NONE);
        due("sawn(-1, 0)", table.sawn(-1, 0), NONE);
        due("less", table.less(), 0);
        // GAP 100 less 98
        table = Check.garden("g50,0,50,0;tw98");
        due("GAP", table.gap(0), 2);
        due("leg 2, as leg 0 would be too SHORT", table.sawn(0, 0), 2);
        due("by", table.sawn(0, 1), 2);
        due("less", table.less(), 98);
        table = Check.garden("g50,0,51,0;tw98y1");
        due("leg 2 to the last", table.sawn(0, 0), 2);
        table = Check.garden("g50,0,50,0;tw97");
        due("leg 0, GAP 3: too much", table.sawn(0, 0), 2);
        table = Check.garden("g49,0,50,0;tw97");
        due("leg 0 to 99", table.sawn(0, 0), 0);
        table = Check.garden("g99,0,99,0;tw1y2");
        due("it can't be", table.sawn(0, 0), NONE);
        due("it can't be", table.sawn(0, 1), NONE);
        due("less", table.less(), 3);
        table = Check.garden("g0,1,0,1;tx98z97");
        due("GAP", table.gap(0), 193);
        table = Check.garden("g0,50,0,52;tx99");
        due("leg 3, as leg 1 is too SHORT", table.sawn(0, 0), 3);
        due("by", table.sawn(0, 1), 3);
        table = Check.garden("g1,1,1,1");
        due("it STANDS: leg", table.sawn(2, 0), 0);
        due("it STANDS: by", table.sawn(2, 1), 0);
    }

    // 18
    private static void wedges() {
        RockingTable table = Check.garden(FOUR);
        due("wedges(0, -1)", table.wedges(0, -1), 1);
        due("wedges(0, 0)", table.wedges(0, 0), 1);
        due("wedges(0, 1)", table.wedges(0, 1), 0);
        due("wedges(1, 0)", table.wedges(1, 0), -1);
        due("wedges(0, 2)", table.wedges(0, 2), HIDDEN);
        due("wedges(0, -2)", table.wedges(0, -2), HIDDEN);
        due("wedges(4, -1)", table.wedges(4, -1), HIDDEN);
        due("wedges(-1, -1)", table.wedges(-1, -1), HIDDEN);
        // GAP 1 by cards 2 and 3: 2 beneath 0 or 2, 3 beneath 1 or 3
        table = Check.garden("g2,1,1,1;ct2;ct3");
        due("both sorts", table.wedges(0, -1), 2);
        due("2", table.wedges(0, 0), 1);
        due("3", table.wedges(0, 1), -1);
        // GAP 6 by sorts of 1, 2, 3, 4: -2 -4, or -1 (1) .. : least net number of the first sort first
        table = Check.garden("g4,1,4,1;ct1n9;ct2n9;ct3n9;ct4n9");
        due("two cards", table.wedges(0, -1), 2);
        due("first sort", table.wedges(0, 0), 0);
        due("second sort", table.wedges(0, 1), -1);
        due("third sort", table.wedges(0, 2), 0);
        due("fourth sort", table.wedges(0, 3), -1);
        // GAP 2 by 1, 1, 3: -3 and +1 of either, or -1 -1
        table = Check.garden("g2,1,2,1;c;c;ct3");
        due("two cards", table.wedges(0, -1), 2);
        due("-1", table.wedges(0, 0), -1);
        due("-1", table.wedges(0, 1), -1);
        due("0", table.wedges(0, 2), 0);
        due("no more than there are", Check.garden("g2,1,2,1;c").wedges(0, -1), HIDDEN);
        due("as many as there are", Check.garden("g2,1,2,1;cn2").wedges(0, -1), 2);
        due("none of it", Check.garden("g2,1,1,1;cn0").wedges(0, -1), HIDDEN);
        due("no sorts, it STANDS", Check.garden("g1,1,1,1").wedges(0, -1), 0);
        due("no sorts, what 0", Check.garden("g1,1,1,1").wedges(0, 0), HIDDEN);
        due("no sorts, it can't be", Check.garden("g2,1,1,1").wedges(0, -1), HIDDEN);
        due("the thickest piles of the last sorts", Check.garden("g99,0,99,0;tx99z63;c;c;ct20n9;ct20n9").wedges(0, -1), 18);
        due("and the other way", Check.garden("g0,99,0,99;tw99y63;c;c;ct20n9;ct20n9").wedges(0, 3), 9);
        due("all there are", Check.garden("g99,0,99,0;tx99z99;ct20n9;ct11n9;ct13n9").wedges(0, -1), 27);
    }

    // 19, 20, 21
    private static void rocked() {
        RockingTable table = Check.garden(FOUR);
        due("shorts before: how many", table.shorts(0, 0), 100);
        due("the least", table.shorts(0, 1), 0);
        due("the greatest", table.shorts(0, 2), 99);
        due("heights before", table.heights(3, 0), 100);
        due("rock(4, 0)", table.rock(4, 0), NONE);
        due("rock(-1, 0)", table.rock(-1, 0), NONE);
        due("rock(0, 2)", table.rock(0, 2), NONE);
        due("rock(0, -2)", table.rock(0, -2), NONE);
        due("rock(0, 1)", table.rock(0, 1), 1);
        // GAP 0 is -2 - w + x - y + z
        due("leg 0 can't do it", table.shorts(0, 0), 0);
        due("none: the least", table.shorts(0, 1), NONE);
        due("none: the greatest", table.shorts(0, 2), NONE);
        due("leg 1", table.shorts(1, 0), 97);
        due("the least", table.shorts(1, 1), 3);
        due("the greatest", table.shorts(1, 2), 99);
        due("POINT 0: 5 and 3 more", table.heights(0, 1), 8);
        due("POINT 1: 3 less 3", table.heights(1, 2), 0);
        due("POINT 1: how many", table.heights(1, 0), 1);
        due("rock(1, 0)", table.rock(1, 0), 2);
        // GAP 1 is 2 - w + x - y + z
        due("both at once can't be by leg 1", table.shorts(1, 0), 0);
        // POINT 0: GAP 0 -7 + v above 0, GAP 1 7 - v = 0
        due("POINT 0", table.heights(0, 0), 0);
        due("shorts(4, 0)", table.shorts(4, 0), HIDDEN);
        due("shorts(-1, 0)", table.shorts(-1, 0), HIDDEN);
        due("shorts(0, 3)", table.shorts(0, 3), HIDDEN);
        due("shorts(0, -1)", table.shorts(0, -1), HIDDEN);
        due("heights(4, 0)", table.heights(4, 0), HIDDEN);
        due("heights(-1, 0)", table.heights(-1, 0), HIDDEN);
        due("heights(0, 3)", table.heights(0, 3), HIDDEN);
        due("heights(0, -1)", table.heights(0, -1), HIDDEN);
        for (int i = 3; i <= 20; i++) {
            due("rock", table.rock(0, -1), i);
        }
        due("a 21st", table.rock(0, -1), NONE);
        due("twenty", table.count(6), 20);
        table = Check.garden(SIX);
        due("rock(0, 1)", table.rock(0, 1), 1);
        due("a POINT that no leg stands on", table.heights(2, 0), 100);
        due("rock(1, 1), as it isn't", table.rock(1, 1), 2);
        due("none by that POINT's neighbour", table.heights(0, 0), 0);
        due("POINT 2: GAP 1 is 2 + 3 - 3 - 2 less (v - 3)", table.heights(2, 2), 2);
        due("POINT 2: how many", table.heights(2, 0), 3);
        table = Check.garden("g5,3,4,8;tx1");
        due("rock(0, 0)", table.rock(0, 0), 1);
        due("leg 1 is 2", table.shorts(1, 1), 2);
        due("leg 1 is 2", table.shorts(1, 2), 2);
        due("leg 1 alone", table.shorts(1, 0), 1);
    }

    // 22, 23
    private static void anglesAndSteady() {
        RockingTable table = Check.garden(SIX);
        due("angles", table.angles(), 2 + 4);
        // ANGLE 1: 5, 0, -5, ..; ANGLE 2: 5, -5, 0, ..
        due("rock(0, 1)", table.rock(0, 1), 1);
        due("both", table.angles(), 6);
        due("rock(1, -1)", table.rock(1, -1), 2);
        due("ANGLE 2", table.angles(), 4);
        due("rock(1, 0)", table.rock(1, 0), 3);
        due("neither", table.angles(), 0);
        due("steady(0)", table.steady(0), 1);
        due("steady(1)", table.steady(1), 4);
        due("steady(2)", table.steady(2), NONE);
        due("steady(-1)", table.steady(-1), NONE);
        // across 3, 0, 1, 0: ANGLE 1: 3, -1, 1, -3; ANGLE 2: 2, 0, -2, 0; ANGLE 3: 3, -3, 1, -1
        table = Check.garden("g3,0,1,0,0,0,0,0");
        due("of several the least", table.steady(0), 1);
        due("all", table.steady(1), 8);
        due("GAPS shifted by 1 up: ANGLE 2 never", Check.garden("g3,0,1,0,0,0,0,0;tx2").steady(1), 4);
        due("ANGLE by ROCKED, legs SHORT", Check.garden("g3,0,1,0,0,0,0,0;tx2").angles(), 14);
        table = Check.garden("g1,1,1,1,1,1,1,1,1,1,1,1,1,1,1,1,1,1,1,1,1,1,1,1");
        due("ANGLES 1 .. 11", table.angles(), 4094);
    }

    // 24
    private static void likely() {
        RockingTable table = Check.garden("g1,1,1,1");
        due("no step", table.likely(0, 0, 50), 1000000000);
        due("certainly", table.likely(3, 3, 100), 1000000000);
        due("never", table.likely(3, 3, 0), 1000000000);
        due("one step, half", table.likely(0, 1, 50), 6 * 62500000);
        // 12 choices: those with as many of six as of the other six, C(12, 6) of 4096
        due("three steps, half, cut", Math.abs(table.likely(0, 3, 50) - 225585937) <= 4096 ? 1 : 0, 1);
        due("out of reach", Check.garden("g8,1,1,1").likely(0, 3, 50), 0);
        due("at the edge of reach", Check.garden("g7,1,1,1").likely(0, 3, 100), 0);
        due("likely(0, -1, 50)", table.likely(0, -1, 50), NONE);
        due("likely(0, 4, 50)", table.likely(0, 4, 50), NONE);
        due("likely(0, 1, 101)", table.likely(0, 1, 101), NONE);
        due("likely(0, 1, -1)", table.likely(0, 1, -1), NONE);
        due("likely(4, 1, 50)", table.likely(4, 1, 50), NONE);
        due("likely(-1, 1, 50)", table.likely(-1, 1, 50), NONE);
        // GAP 1, one step by 1 of 100: one of legs 0 and 2 alone, or both and one of the others
        long once = 2L * 10000000 * 99 / 100 * 99 / 100 * 99 / 100;
        due("GAP 1 by 1 of 100", Math.abs(Check.garden("g2,1,1,1").likely(0, 1, 1) - once) < 3000 ? 1 : 0, 1);
    }

    // 25 .. 28
    private static void apart() {
        RockingTable table = Check.garden(FOUR);
        int[] below = {11, 11, 14, 11};
        int[] above = {7, 7, 7, 13};
        for (int leg = 0; leg < 4; leg++) {
            due("GAP below 0: jug on " + leg, table.jug(0, leg), below[leg]);
            due("GAP above 0: jug on " + leg, table.jug(1, leg), above[leg]);
            due("GAP 0: jug on " + leg, Check.garden("g1,1,1,1").jug(0, leg), 15);
        }
        due("jug(0, 4)", table.jug(0, 4), NONE);
        due("jug(0, -1)", table.jug(0, -1), NONE);
        due("jug(4, 0)", table.jug(4, 0), NONE);
        due("jug(-1, 0)", table.jug(-1, 0), NONE);
        due("soup(2, 5)", table.soup(2, 5), 4);
        due("soup(1, 5)", table.soup(1, 5), 0);
        due("soup(2, 4)", table.soup(2, 4), 0);
        due("soup(99, 99)", table.soup(99, 99), 4);
        due("soup(100, 0)", table.soup(100, 0), NONE);
        due("soup(0, 100)", table.soup(0, 100), NONE);
        due("soup(-1, 0)", table.soup(-1, 0), NONE);
        due("soup(0, -1)", table.soup(0, -1), NONE);
        due("serves(0)", table.serves(0), -2);
        due("serves(1)", table.serves(1), 2);
        due("serves(2)", table.serves(2), HIDDEN);
        due("serves(-1)", table.serves(-1), HIDDEN);
        due("nearest to 0", Check.garden(SIX).serves(0), 0);
        due("nearest to 0, how many", Check.garden(SIX).serves(1), 2);
        due("the most", Check.garden("g3,0,1,0,0,0,0,0;tz3").serves(1), 2);
        due("rocky(0)", table.rocky(0), 8);
        due("rocky(3)", table.rocky(3), NONE);
        due("rocky(-1)", table.rocky(-1), NONE);
        due("six together", Check.garden(SIX).rocky(0), 20);
        due("never above", Check.garden("g1,1,1,1").rocky(1), 0);
        due("never below", Check.garden("g1,1,1,1").rocky(2), 0);
        due("all above, once round", Check.garden("g1,1,1,1;tx1").rocky(1), 4);
        due("all below, once round", Check.garden("g1,1,1,1;tw1").rocky(2), 4);
        // across 3, 1, 2: GAPS 2, -1, -1, ..
        due("two below", Check.garden("g3,1,2,0,0,0").rocky(2), 2);
        due("one above", Check.garden("g3,1,2,0,0,0").rocky(1), 1);
        // across 2, 3, 1: GAPS -1, 2, -1, -1, 2, -1
        due("two below, going round", Check.garden("g2,3,1,0,0,0").rocky(2), 2);
    }

    // 29, 30
    private static void cheapAndPiles() {
        RockingTable table = Check.garden("g5,3,4,8;tx1;cn3");
        // GAPS -1, 3, -1, 3
        due("stay", table.cheap(1, 99, 1, 0), 1);
        due("stay: how much", table.cheap(1, 99, 1, 1), 3);
        due("turn", table.cheap(1, 1, 1, 0), 0);
        due("turn: how much", table.cheap(1, 1, 1, 1), 2);
        due("of several the lowest", table.cheap(3, 1, 1, 0), 0);
        due("the shorter way round", table.cheap(3, 1, 1, 1), 2);
        due("for nothing", table.cheap(3, 0, 0, 0), 0);
        due("for nothing", table.cheap(3, 0, 0, 1), 0);
        due("most", table.cheap(1, 99, 99, 1), 198);
        due("cheap(4, ..)", table.cheap(4, 1, 1, 0), NONE);
        due("cheap(-1, ..)", table.cheap(-1, 1, 1, 0), NONE);
        due("HEAVE", table.cheap(0, 100, 1, 0), NONE);
        due("HEAVE", table.cheap(0, -1, 1, 0), NONE);
        due("COST", table.cheap(0, 1, 100, 0), NONE);
        due("COST", table.cheap(0, 1, -1, 0), NONE);
        due("what", table.cheap(0, 1, 1, 2), NONE);
        due("what", table.cheap(0, 1, 1, -1), NONE);
        due("can't do it left out", Check.garden("g5,3,4,8;tx1;c").cheap(1, 9, 1, 0), 0);
        due("can't do it left out", Check.garden("g5,3,4,8;tx1;c").cheap(1, 9, 1, 1), 10);
        due("none", Check.garden("g5,3,4,8").cheap(0, 1, 1, 0), NONE);
        due("none", Check.garden("g5,3,4,8").cheap(0, 1, 1, 1), NONE);
        due("piles", table.piles(0), 1);
        due("piles(4)", table.piles(4), NONE);
        due("piles(-1)", table.piles(-1), NONE);
        due("no sorts, it STANDS", Check.garden("g1,1,1,1").piles(0), 1);
        due("no sorts", Check.garden("g2,1,1,1").piles(0), 0);
        // of two sorts: -2 .. 2 against one another
        due("two sorts alike", Check.garden("g1,1,1,1;cn2;cn2").piles(0), 5);
        // a + b + c + d = 0, each -1 .. 1
        due("four sorts alike", Check.garden("g1,1,1,1;c;c;c;c").piles(0), 19);
        due("four sorts alike, GAP 4", Check.garden("g3,1,3,1;c;c;c;c").piles(0), 1);
        due("four sorts alike, GAP 5", Check.garden("g4,1,3,1;c;c;c;c").piles(0), 0);
    }

    // 31, 32
    private static void trialsAndFlips() {
        RockingTable table = Check.garden(FOUR);
        due("flat grounds", table.trial(50, 9, 0, 0), 50);
        due("refused", table.trial(0, 9, 0, 0), NONE);
        due("refused", table.trial(51, 9, 0, 0), NONE);
        due("refused", table.trial(1, 9, -1, 0), NONE);
        due("refused", table.trial(1, 9, 100, 0), NONE);
        due("refused", table.trial(1, 9, 9, -1), NONE);
        due("refused", table.trial(1, 9, 9, 5), NONE);
        due("the ground is as it was", table.height(0), 5);
        due("no ACT", table.count(7), 0);
        // one GAP of a ground of four is the other's with another sign: it always STANDS within 1
        due("always", table.trial(50, 1, 99, 1), 50);
        int first = standing(1, 3);
        due("as DRAWN, span 0", table.trial(1, 1, 3, 0), first);
        // n grounds go on with one seed's draws: the sum of n steps is not n times the first
        int all = 0;
        long x = 1;
        for (int i = 0; i < 20; i++) {
            int[] h = new int[4];
            for (int k = 0; k < 4; k++) {
                x = x * 6364136223846793005L + 1442695040888963407L;
                h[k] = (int) ((x >>> 33) % 4);
            }
            all += h[0] + h[2] == h[1] + h[3] ? 1 : 0;
        }
        due("twenty grounds", table.trial(20, 1, 3, 0), all);
        due("flip: nothing to share", table.flip(0), 123);
        due("flip(1)", table.flip(1), 4);
        due("flip(2)", table.flip(2), NONE);
        due("flip(-1)", table.flip(-1), NONE);
        // GAPS -2, 2, ..; 3 and 3 of legs 0 and 2 make it never STAND, shared out to 0 and 1 it does
        table = Check.garden("g5,3,4,8;tw3y3");
        due("never", table.stands(-1, 0), 0);
        // leg 3 has leg 2's, leg 2 leg 3's
        due("flip: digits", table.flip(0), 132);
        due("flip: how many", table.flip(1), 4);
        due("how SHORT they are stays", table.shorter(2), 3);
        // across 3, 0, 1, 2: GAPS 3, -1, -1, -1 with whole legs; the most STANDS if all are 1 more, which
        // 1 + 9 beneath legs 0 and 2 against 4 + 7 make alone
        table = Check.garden("g3,0,1,2,0,0,0,0;tw4x7y1z9");
        due("flip: legs 2 and 3 ahead", table.flip(0), 2031);
        due("flip: how many", table.flip(1), 6);
    }

    private static int standing(long seed, int most) {
        RockingTable table = Check.garden(FOUR);
        table.drawn(seed, most);
        return table.gap(0) == 0 ? 1 : 0;
    }

    // 33
    private static void planes() {
        due("even", Check.garden("g1,1,1,1").plane(0), 0);
        due("one", Check.garden(FOUR).plane(0), 1);
        due("plane(4)", Check.garden(FOUR).plane(4), NONE);
        due("plane(-1)", Check.garden(FOUR).plane(-1), NONE);
        // legs SHORT by 1: the two GAPS of four POINTS can't both be 0
        due("can't be", Check.garden("g5,3,4,8;tx1").plane(0), NONE);
        // GAPS -198 and 198, then -197 and 197, then -99 and 99
        due("two", Check.garden("g99,0,99,0").plane(3), 2);
        due("one is not enough", Check.garden("g99,0,98,0").plane(3), 2);
        due("one just does it", Check.garden("g99,0,0,0").plane(3), 1);
        // eight POINTS, ANGLE 2: TURNINGS 0 and 1 have no POINT in common
        due("one for each", Check.garden("g5,7,0,0,0,0,0,0;ta2").plane(0), 2);
        due("one for the one", Check.garden("g5,0,0,0,0,0,0,0;ta2").plane(0), 1);
        due("the next one goes round", Check.garden("g5,0,0,0,0,0,0,0;ta2").plane(7), 1);
        due("three are needed", Check.garden("g99,7,0,0,99,0,0,0;ta2").plane(0), NONE);
        // GAP 170 at 0, 0 at 1: POINTS 0 and 4 can be 90 and 10 lower, 2 and 6 be 80 and 20 higher
        due("two of different legs, just", Check.garden("g90,0,19,84,10,0,79,84;ta2x84z84").plane(0), 2);
        due("two of different legs, just not", Check.garden("g90,0,19,85,10,0,79,84;ta2x85z84").plane(0), NONE);
        due("a POINT beneath no leg doesn't help", Check.garden("g90,0,19,85,0,10,0,79,84,0;ta2x85z84").plane(0), NONE);
        due("GAP below 0, just", Check.garden("g9,84,80,0,89,84,20,0;ta2w84y84").plane(0), 2);
        due("GAP below 0, just not", Check.garden("g9,85,80,0,89,84,20,0;ta2w85y84").plane(0), NONE);
        due("two for one alone", Check.garden("g99,0,0,0,99,0,0,0;ta2").plane(0), 2);
    }

    // 34 .. 37
    private static void acts() {
        RockingTable table = Check.garden(FOUR);
        due("saw(0, 0)", table.saw(0, 0), NONE);
        due("saw(0, 100)", table.saw(0, 100), NONE);
        due("saw(0, -1)", table.saw(0, -1), NONE);
        due("saw(4, 1)", table.saw(4, 1), NONE);
        due("saw(-1, 1)", table.saw(-1, 1), NONE);
        due("saw(2, 99)", table.saw(2, 99), 1);
        due("too SHORT", table.saw(2, 1), NONE);
        due("shorter(2)", table.shorter(2), 99);
        due("less", table.less(), 99);
        due("heap(0, 5), it is so", table.heap(0, 5), NONE);
        due("heap(0, 100)", table.heap(0, 100), NONE);
        due("heap(0, -1)", table.heap(0, -1), NONE);
        due("heap(4, 1)", table.heap(4, 1), NONE);
        due("heap(-1, 1)", table.heap(-1, 1), NONE);
        due("heap(0, 99)", table.heap(0, 99), 2);
        due("heap(0, 0)", table.heap(0, 0), 3);
        due("drawn(1, -1)", table.drawn(1, -1), NONE);
        due("drawn(1, 100)", table.drawn(1, 100), NONE);
        due("drawn(1, 99)", table.drawn(1, 99), 4);
        long x = 1;
        for (int i = 0; i < 4; i++) {
            x = x * 6364136223846793005L + 1442695040888963407L;
            due("DRAWN " + i, table.height(i), (x >>> 33) % 100);
        }
        due("count(7)", table.count(7), 4);
        due("undo", table.undo(), 3);
        due("height(0)", table.height(0), 0);
        due("height(3)", table.height(3), 8);
        due("undo", table.undo(), 2);
        due("height(0)", table.height(0), 99);
        due("undo", table.undo(), 1);
        due("height(0)", table.height(0), 5);
        due("still SAWN", table.shorter(2), 99);
        due("undo", table.undo(), 0);
        due("no more", table.shorter(2), 0);
        due("none", table.undo(), NONE);
        due("the same seed is an ACT again", table.drawn(1, 0), 1);
        due("the same seed is an ACT again", table.drawn(1, 0), 2);
        due("undo", table.undo(), 1);
        due("undo", table.undo(), 0);
        for (int i = 1; i <= 45; i++) {
            due("heap", table.heap(1, i % 2 == 0 ? 50 + i : 10 + i), Math.min(i, 40));
        }
        for (int i = 39; i >= 0; i--) {
            due("undo", table.undo(), i);
        }
        due("the latest 40 alone: what the fifth made", table.height(1), 15);
        due("none", table.undo(), NONE);
    }

    // 38, 39
    private static void images() {
        RockingTable table = Check.garden(FOUR);
        due("no IMAGE", table.back(), NONE);
        due("saw", table.saw(1, 4), 1);
        due("image", table.image(), 4);
        due("ACTS can still be UNDONE", table.count(7), 1);
        due("drawn", table.drawn(7, 99), 2);
        due("saw", table.saw(1, 4), 3);
        due("back", table.back(), 4);
        due("heights", table.height(3), 8);
        due("SHORT", table.shorter(1), 4);
        due("no ACT can be UNDONE", table.undo(), NONE);
        due("heap", table.heap(3, 1), 1);
        due("back once more", table.back(), 4);
        due("height", table.height(3), 8);
        due("heap", table.heap(3, 1), 1);
        due("another IMAGE", table.image(), 4);
        due("heap", table.heap(3, 2), 2);
        due("back", table.back(), 4);
        due("height", table.height(3), 1);
        due("rock", table.rock(0, 1), 1);
        due("back", table.back(), 4);
        due("ROCKED stays", table.count(6), 1);
    }

    // 40
    private static void counts() {
        RockingTable table = Check.garden("ta2;" + SIX + ";c;c");
        Check.tape(table, "y:1");
        table.text(1);
        Check.tape(table, "y:1?");
        table.wish(0);
        table.rock(0, 0);
        table.saw(0, 1);
        int[] want = {6, 2, 2, 1, 4, 0, 1, 1};
        for (int what = 0; what < 8; what++) {
            due("count " + what, table.count(what), want[what]);
        }
        due("count(8)", table.count(8), HIDDEN);
        due("count(-1)", table.count(-1), HIDDEN);
    }

    /** An object is used for at most 512 calls. */
    private static void manyCalls() {
        RockingTable table = Check.garden(FOUR);
        for (int i = 0; i < 500; i++) {
            due("drawn " + i, table.drawn(i, 99), Math.min(40, i + 1));
        }
        due("undo", table.undo(), 39);
    }
}
