import java.math.BigInteger;

/** Promises 34 to 40: ACTS, what is UNDONE, IMAGES, counts, and how long an object is used. */
final class ActSentences {
    private static final int NONE = RockingTable.NONE;
    private static final int HIDDEN = RockingTable.HIDDEN;
    private static final String FOUR = "g5,3,4,8";

    private ActSentences() {
    }

    static void ask() {
        saw();
        heap();
        drawn();
        draws();
        undo();
        latestForty();
        lastPoint();
        image();
        back();
        count();
        manyCalls();
        constants();
    }

    private static int[] extremes(int least, int most) {
        return new int[] {least - 1, most + 1, Integer.MIN_VALUE, Integer.MAX_VALUE};
    }

    private static void heights(RockingTable table, int... want) {
        for (int point = 0; point < want.length; point++) {
            Sentence.due("height(" + point + ")", table.height(point), want[point]);
        }
    }

    private static void saw() {
        Sentence.of(34, "a leg is SAWN (by 1 .. 99; SHORT 99 at most)");
        RockingTable table = Check.garden(FOUR + ";tz98");
        Sentence.due("saw(0, 1)", table.saw(0, 1), 1);
        Sentence.due("saw(0, 98)", table.saw(0, 98), 2);
        Sentence.due("99 then", table.shorter(0), 99);
        Sentence.due("saw(0, 1), 100 then", table.saw(0, 1), NONE);
        Sentence.due("saw(1, 99)", table.saw(1, 99), 3);
        Sentence.due("saw(1, 1), 100 then", table.saw(1, 1), NONE);
        Sentence.due("saw(3, 2), 100 then", table.saw(3, 2), NONE);
        Sentence.due("saw(3, 1), 99 then", table.saw(3, 1), 4);
        Sentence.due("saw(2, 50)", table.saw(2, 50), 5);
        Sentence.due("saw(2, 50), 100 then", table.saw(2, 50), NONE);
        Sentence.due("saw(2, 49), 99 then", table.saw(2, 49), 6);
        Sentence.due("all of them", table.less(), 396);
        Sentence.of(34, "A leg is SAWN: how many ACTS can be UNDONE.");
        table = Check.garden(FOUR);
        Sentence.due("saw(1, 2)", table.saw(1, 2), 1);
        Sentence.due("it STANDS by it", table.gap(0), 0);
        Sentence.due("legs 0, 2, 3 are as they were", table.less(), 2);
        Sentence.of(34, "NONE: no such one, out of bounds, it would be too SHORT.");
        for (int leg : extremes(0, 3)) {
            Sentence.due("saw(" + leg + ", 1)", table.saw(leg, 1), NONE);
        }
        for (int by : extremes(1, 99)) {
            Sentence.due("saw(0, " + by + ")", table.saw(0, by), NONE);
        }
        Sentence.due("saw(1, 98)", table.saw(1, 98), NONE);
        Sentence.due("one ACT still", table.count(7), 1);
        Sentence.due("two still", table.less(), 2);
        Sentence.due("no GARDEN", new RockingTable().saw(0, 1), NONE);
    }

    private static void heap() {
        Sentence.of(35, "a HEIGHT is told");
        RockingTable table = Check.garden(FOUR);
        Sentence.due("from 0 to 99", Check.garden("g0,0,0,0").heap(2, 99), 1);
        Sentence.due("from 99 to 0", Check.garden("g99,99,99,99").heap(2, 0), 1);
        Sentence.of(35, "A HEIGHT is told: how many ACTS can be UNDONE.");
        Sentence.due("heap(0, 0)", table.heap(0, 0), 1);
        Sentence.due("heap(3, 99)", table.heap(3, 99), 2);
        heights(table, 0, 3, 4, 99);
        Sentence.due("GAP by it", table.gap(0), 0 + 4 - 3 - 99);
        Sentence.due("24 POINTS: heap(23, 0)", Check.garden("g" + "1,".repeat(23) + "1").heap(23, 0), 1);
        Sentence.of(35, "NONE: no such POINT, out of bounds, it is so.");
        Sentence.due("it is so", table.heap(0, 0), NONE);
        Sentence.due("it is so", table.heap(3, 99), NONE);
        Sentence.due("it is so, as it was told", table.heap(1, 3), NONE);
        for (int point : extremes(0, 3)) {
            Sentence.due("heap(" + point + ", 1)", table.heap(point, 1), NONE);
        }
        for (int v : extremes(0, 99)) {
            Sentence.due("heap(0, " + v + ")", table.heap(0, v), NONE);
        }
        Sentence.due("two ACTS still", table.count(7), 2);
        heights(table, 0, 3, 4, 99);
        Sentence.due("no GARDEN", new RockingTable().heap(0, 0), NONE);
    }

    private static void drawn() {
        Sentence.of(36, "DRAWN: how many ACTS can be UNDONE.");
        RockingTable table = Check.garden(FOUR + ";tw7");
        Sentence.due("drawn(9, 0)", table.drawn(9, 0), 1);
        heights(table, 0, 0, 0, 0);
        Sentence.due("drawn(9, 0) again, though nothing is another by it", table.drawn(9, 0), 2);
        Sentence.due("drawn(9, 99)", table.drawn(9, 99), 3);
        Sentence.due("how SHORT legs are stays", table.less(), 7);
        Sentence.of(36, "NONE: no GARDEN, out of bounds.");
        for (int most : extremes(0, 99)) {
            Sentence.due("drawn(9, " + most + ")", table.drawn(9, most), NONE);
        }
        Sentence.due("three ACTS still", table.count(7), 3);
        Sentence.due("no GARDEN", new RockingTable().drawn(9, 0), NONE);
    }

    private static void draws() {
        Sentence.of(36, "all HEIGHTS are DRAWN by a seed: each, by POINTS, a draw of most and 1 (most 0 .. 99)");
        drawnBy(1, 1, 6);
        drawnBy(1, 2, 6);
        drawnBy(1, 98, 24);
        drawnBy(1, 99, 24);
        Sentence.of(36, "x, at first the seed, becomes x times 6364136223846793005 and 1442695040888963407 (64 bits, going round)");
        drawnBy(0, 99, 24);
        drawnBy(-1, 99, 24);
        drawnBy(Long.MIN_VALUE, 99, 24);
        drawnBy(Long.MAX_VALUE, 99, 24);
        Sentence.of(36, "a draw of m: (x shifted right by 33, without sign) modulo m");
        for (long seed = 2; seed < 30; seed++) {
            drawnBy(seed * 0x9E3779B97F4A7C15L, 96, 4);
        }
    }

    private static void drawnBy(long seed, int most, int points) {
        RockingTable table = Check.garden("g" + "1,".repeat(points - 1) + "1");
        table.drawn(seed, most);
        BigInteger x = BigInteger.valueOf(seed);
        for (int point = 0; point < points; point++) {
            x = x.multiply(new BigInteger("6364136223846793005")).add(new BigInteger("1442695040888963407"))
                    .mod(BigInteger.ONE.shiftLeft(64));
            int want = x.shiftRight(33).mod(BigInteger.valueOf(most + 1)).intValue();
            Sentence.due("drawn(" + seed + ", " + most + "): height(" + point + ")", table.height(point), want);
        }
    }

    private static void undo() {
        Sentence.of(37, "The latest ACT is UNDONE: how many still can be.");
        RockingTable table = Check.garden(FOUR + ";tx1");
        table.saw(1, 5);
        table.heap(0, 9);
        table.heap(0, 2);
        table.drawn(4, 0);
        table.saw(1, 93);
        Sentence.due("undo", table.undo(), 4);
        Sentence.due("the leg is as it was", table.shorter(1), 6);
        Sentence.due("undo", table.undo(), 3);
        heights(table, 2, 3, 4, 8);
        Sentence.due("undo", table.undo(), 2);
        heights(table, 9, 3, 4, 8);
        Sentence.due("an ACT instead of what was UNDONE", table.saw(0, 9), 3);
        Sentence.due("undo", table.undo(), 2);
        Sentence.due("undo", table.undo(), 1);
        heights(table, 5, 3, 4, 8);
        Sentence.due("the first ACT is still there", table.shorter(1), 6);
        Sentence.due("undo", table.undo(), 0);
        Sentence.due("as it was told", table.shorter(1), 1);
        Sentence.of(37, "NONE: none.");
        Sentence.due("undo", table.undo(), NONE);
        Sentence.due("as it was told", table.less(), 1);
        heights(table, 5, 3, 4, 8);
        Sentence.due("no ACT yet", Check.garden(FOUR).undo(), NONE);
        Sentence.due("no GARDEN", new RockingTable().undo(), NONE);
        table.saw(9, 9);
        table.heap(0, 5);
        table.drawn(1, 100);
        table.rock(0, 1);
        table.image();
        Sentence.due("refused ones, ROCKED and IMAGES are no ACTS", table.undo(), NONE);
    }

    private static void latestForty() {
        Sentence.of(37, "The latest (40) can be UNDONE one by one.");
        RockingTable table = Check.garden(FOUR);
        for (int i = 1; i <= 40; i++) {
            Sentence.due("ACT " + i, table.heap(0, 50 + i % 2 * 20 + i / 2), i);
        }
        RockingTable full = Check.garden(FOUR);
        for (int i = 1; i <= 40; i++) {
            full.heap(0, 50 + i % 2 * 20 + i / 2);
        }
        for (int i = 39; i >= 0; i--) {
            Sentence.due("40 ACTS: undo", full.undo(), i);
            heights(full, i == 0 ? 5 : 50 + i % 2 * 20 + i / 2, 3, 4, 8);
        }
        Sentence.due("40 ACTS: a 41st undo", full.undo(), NONE);
        Sentence.due("ACT 41", table.saw(2, 3), 40);
        Sentence.due("ACT 42", table.drawn(3, 0), 40);
        Sentence.due("ACT 43", table.heap(3, 77), 40);
        Sentence.due("count(7)", table.count(7), 40);
        Sentence.due("undo 43", table.undo(), 39);
        heights(table, 0, 0, 0, 0);
        Sentence.due("undo 42", table.undo(), 38);
        heights(table, 70, 3, 4, 8);
        Sentence.due("undo 41", table.undo(), 37);
        Sentence.due("undo 41: leg 2", table.shorter(2), 0);
        for (int i = 36; i >= 0; i--) {
            Sentence.due("undo", table.undo(), i);
        }
        Sentence.due("what the third ACT made can't be UNDONE", table.height(0), 50 + 20 + 1);
        Sentence.due("none", table.undo(), NONE);
        Sentence.due("the next ACT is the first", table.heap(0, 1), 1);
        Sentence.due("undo", table.undo(), 0);
        Sentence.due("height(0)", table.height(0), 71);
    }

    /** Of 24 POINTS the last one is UNDONE and kept as the others are. */
    private static void lastPoint() {
        Sentence.of(37, "The latest ACT is UNDONE: how many still can be.");
        RockingTable table = Check.garden("g" + "1,".repeat(23) + "77");
        table.heap(23, 5);
        table.drawn(8, 0);
        table.undo();
        Sentence.due("24 POINTS: height(23)", table.height(23), 5);
        table.undo();
        Sentence.due("24 POINTS: height(23)", table.height(23), 77);
        Sentence.of(39, "BACK: they are so again (no ACT can be UNDONE then).");
        table.image();
        table.drawn(8, 0);
        table.back();
        Sentence.due("24 POINTS: height(23)", table.height(23), 77);
        Sentence.due("24 POINTS: height(0)", table.height(0), 1);
    }

    private static void image() {
        Sentence.of(38, "An IMAGE (instead of the one ahead): POINTS.");
        RockingTable table = Check.garden("g5,3,4,8,0,99;tz9");
        Sentence.due("image", table.image(), 6);
        table.heap(5, 1);
        Sentence.due("image", table.image(), 6);
        Sentence.due("it is no ACT and ends none", table.count(7), 1);
        table.heap(5, 2);
        table.back();
        Sentence.due("the one ahead is gone", table.height(5), 1);
        Sentence.due("24 POINTS", Check.garden("g" + "1,".repeat(23) + "1").image(), 24);
        Sentence.of(38, "NONE: no GARDEN.");
        Sentence.due("image", new RockingTable().image(), NONE);
        Sentence.of(38, "An IMAGE keeps HEIGHTS, how SHORT legs are");
        table = Check.garden("g5,3,4,8,0,99;tz9");
        table.image();
        table.drawn(5, 50);
        for (int leg = 0; leg < 4; leg++) {
            table.saw(leg, leg + 1);
        }
        Sentence.due("back", table.back(), 6);
        heights(table, 5, 3, 4, 8, 0, 99);
        int[] shorts = {0, 0, 0, 9};
        for (int leg = 0; leg < 4; leg++) {
            Sentence.due("shorter(" + leg + ")", table.shorter(leg), shorts[leg]);
        }
    }

    private static void back() {
        Sentence.of(39, "BACK: they are so again (no ACT can be UNDONE then).");
        RockingTable table = Check.garden(FOUR);
        table.saw(1, 4);
        table.image();
        table.heap(2, 9);
        Sentence.due("back", table.back(), 4);
        Sentence.due("count(7)", table.count(7), 0);
        Sentence.due("undo", table.undo(), NONE);
        Sentence.due("leg 1 as in the IMAGE", table.shorter(1), 4);
        Sentence.due("an ACT then is the first", table.heap(2, 9), 1);
        Sentence.due("the IMAGE stays: back again", table.back(), 4);
        heights(table, 5, 3, 4, 8);
        Sentence.due("back though nothing is another", table.back(), 4);
        table = Check.garden(FOUR);
        table.saw(1, 4);
        table.image();
        table.undo();
        Sentence.due("what was UNDONE is so again", table.back(), 4);
        Sentence.due("leg 1", table.shorter(1), 4);
        table.rock(0, 1);
        Check.tape(table, "y:5");
        table.text(1);
        table.wish(0);
        table.back();
        Sentence.due("ROCKED stays", table.count(6), 1);
        Sentence.due("the WISH still holds", table.count(5), 0);
        Sentence.of(39, "BACK: POINTS.");
        RockingTable most = Check.garden("g" + "1,".repeat(23) + "1");
        most.image();
        Sentence.due("24", most.back(), 24);
        Sentence.of(39, "NONE: no IMAGE of this GARDEN.");
        Sentence.due("none yet", Check.garden(FOUR).back(), NONE);
        Sentence.due("no GARDEN", new RockingTable().back(), NONE);
        Check.tape(table, "g1,1,1,1,1,1");
        table.text(0);
        table.saw(0, 1);
        Sentence.due("of another GARDEN", table.back(), NONE);
        Sentence.due("of another GARDEN: ACTS stay", table.count(7), 1);
        table.image();
        Check.tape(table, "g1,1,1,1,1,1");
        table.text(0);
        Sentence.due("of another GARDEN by the same TEXT", table.back(), NONE);
    }

    private static void count() {
        Sentence.of(40, "0 POINTS (0: no GARDEN), 1 ANGLE, 2 sorts of CARDS, 3 WISHES, 4 bytes of the TAPE, 5 the WISH that holds (NONE), "
                + "6 ROCKED, 7 ACTS that can be UNDONE.");
        RockingTable table = new RockingTable();
        int[] bare = {0, 0, 0, 0, 0, NONE, 0, 0};
        for (int what = 0; what < 8; what++) {
            Sentence.due("no GARDEN: count(" + what + ")", table.count(what), bare[what]);
        }
        Check.tape(table, "y:1");
        table.text(1);
        Sentence.due("no GARDEN, a WISH: count(3)", table.count(3), 1);
        Check.tape(table, "c;c;c;g1,1,1,1,1,1,1,1;ta3;c");
        table.text(0);
        Check.tape(table, "y:12345");
        table.wish(0);
        for (int i = 0; i < 6; i++) {
            table.rock(0, 0);
        }
        for (int i = 0; i < 5; i++) {
            table.saw(0, 1);
        }
        int[] want = {8, 3, 4, 1, 7, 0, 6, 5};
        for (int what = 0; what < 8; what++) {
            Sentence.due("count(" + what + ")", table.count(what), want[what]);
        }
        Sentence.of(40, "HIDDEN for others.");
        for (int what : extremes(0, 7)) {
            Sentence.due("count(" + what + ")", table.count(what), HIDDEN);
            Sentence.due("no GARDEN: count(" + what + ")", new RockingTable().count(what), HIDDEN);
        }
    }

    private static void manyCalls() {
        Sentence.of(0, "An object is used for at most 512 calls after it has been made");
        RockingTable table = new RockingTable();
        Sentence.due("call 1", table.feed(0x67312C31, 0x2C312C31, 0, 0, 0), 8);
        Sentence.due("call 2", table.text(0), 4);
        for (int call = 3; call < 512; call++) {
            Sentence.due("call " + call, table.drawn(call, 99), Math.min(40, call - 2));
        }
        Sentence.due("call 512", table.undo(), 39);
        table = new RockingTable();
        for (int call = 1; call <= 512; call++) {
            Sentence.due("call " + call, table.feed(0x67202020, 0, 0, 0, 0), call <= 40 ? 4 * call : NONE);
        }
    }

    private static void constants() {
        Sentence.of(0, "`NONE = -1`: None; refused.");
        Sentence.due("NONE", RockingTable.NONE, -1);
        Sentence.of(0, "`HIDDEN = -1000000`: Not told.");
        Sentence.due("HIDDEN", RockingTable.HIDDEN, -1000000);
    }
}
