import java.math.BigInteger;

/** Promises 25 to 33: JUG, SOUP, SERVES, ROCKY, CHEAP, PILES, TRIAL, FLIP, PLANE. */
final class ApartSentences {
    private static final int NONE = RockingTable.NONE;
    private static final int HIDDEN = RockingTable.HIDDEN;
    /** GAPS -2, 2, -2, 2; TILT 5 at each TURNING. */
    private static final String FOUR = "g5,3,4,8";
    /** GAPS 5, 0, -5, 5, 0, -5; TILTS 8, 1, 8, 8, 1, 8. */
    private static final String SIX = "g9,2,3,1,3,2";

    private ApartSentences() {
    }

    static void ask() {
        jug();
        soup();
        serves();
        rocky();
        cheap();
        cheapRefused();
        piles();
        trial();
        trialRefused();
        flip();
        plane();
        planeByTwo();
        planeByTheseAlone();
    }

    private static int[] extremes(int least, int most) {
        return new int[] {least - 1, most + 1, Integer.MIN_VALUE, Integer.MAX_VALUE};
    }

    private static void jugs(String text, int p, int... want) {
        RockingTable table = Check.garden(text);
        for (int leg = 0; leg < 4; leg++) {
            Sentence.due("jug(" + p + ", " + leg + ") of " + text, table.jug(p, leg), want[leg]);
        }
    }

    private static void jug() {
        Sentence.of(25, "legs (bits) that stand on the ground then: all, if GAP is 0");
        jugs("g1,1,1,1", 3, 15, 15, 15, 15);
        Sentence.of(25, "if it is above 0, 0 and 2, and of 1 and 3 that with the JUG (on neither: 1)");
        jugs(FOUR, 1, 1 + 4 + 2, 1 + 4 + 2, 1 + 4 + 2, 1 + 4 + 8);
        jugs("g2,1,1,1", 0, 7, 7, 7, 13);
        Sentence.of(25, "if below, 1 and 3, and of 0 and 2 that with the JUG (on neither: 0)");
        jugs(FOUR, 0, 2 + 8 + 1, 2 + 8 + 1, 2 + 8 + 4, 2 + 8 + 1);
        jugs("g1,2,1,1", 0, 11, 11, 14, 11);
        Sentence.of(25, "JUG, as bits.");
        jugs(SIX, 5, 11, 11, 14, 11);
        Sentence.of(25, "NONE: no such ones.");
        for (int p : extremes(0, 3)) {
            Sentence.due("jug(" + p + ", 0)", Check.garden(FOUR).jug(p, 0), NONE);
        }
        for (int leg : extremes(0, 3)) {
            Sentence.due("jug(0, " + leg + ")", Check.garden(FOUR).jug(0, leg), NONE);
            Sentence.due("jug(1, " + leg + ")", Check.garden(FOUR).jug(1, leg), NONE);
            Sentence.due("GAP 0: jug(0, " + leg + ")", Check.garden("g1,1,1,1").jug(0, leg), NONE);
        }
        Sentence.due("no GARDEN", new RockingTable().jug(0, 0), NONE);
    }

    private static void soup() {
        Sentence.of(26, "SOUP: at how many TURNINGS GAP without its sign is no more than GIVE (0 .. 99) and TILT no more than RIM (0 .. 99).");
        RockingTable table = Check.garden(FOUR);
        Sentence.due("soup(2, 5)", table.soup(2, 5), 4);
        Sentence.due("soup(1, 5)", table.soup(1, 5), 0);
        Sentence.due("soup(2, 4)", table.soup(2, 4), 0);
        Sentence.due("soup(99, 99)", table.soup(99, 99), 4);
        Sentence.due("soup(0, 0)", table.soup(0, 0), 0);
        Sentence.due("flat: soup(0, 0)", Check.garden("g1,1,1,1").soup(0, 0), 4);
        table = Check.garden(SIX);
        Sentence.due("soup(0, 1)", table.soup(0, 1), 2);
        Sentence.due("soup(4, 8)", table.soup(4, 8), 2);
        Sentence.due("soup(5, 7)", table.soup(5, 7), 2);
        Sentence.due("soup(5, 8)", table.soup(5, 8), 6);
        Sentence.due("soup(5, 0)", table.soup(5, 0), 0);
        // GAPS 4, -1, -6, ..
        Sentence.due("some above, some below", Check.garden(SIX + ";tw1").soup(4, 99), 4);
        // TILTS 100, 97, 98, 101; GAPS 100, -98, 100, -98
        table = Check.garden("g99,0,0,0;ty1z2");
        Sentence.due("more than GIVE and RIM can be", table.soup(99, 99), 1);
        Sentence.of(26, "SOUP.");
        table = Check.garden(SIX);
        table.heap(0, 4);
        Sentence.due("as it is now, flat but for TILT 3, 1, 3: GAPS 0", table.soup(0, 3), 6);
        Sentence.of(26, "NONE: no GARDEN, out of bounds.");
        for (int out : extremes(0, 99)) {
            Sentence.due("soup(" + out + ", 0)", table.soup(out, 0), NONE);
            Sentence.due("soup(0, " + out + ")", table.soup(0, out), NONE);
        }
        Sentence.due("no GARDEN", new RockingTable().soup(0, 0), NONE);
    }

    private static void serves(String text, int gap, int many) {
        Sentence.due("serves(0) of " + text, Check.garden(text).serves(0), gap);
        Sentence.due("serves(1) of " + text, Check.garden(text).serves(1), many);
    }

    private static void serves() {
        Sentence.of(27, "SERVES: the GAP that the most TURNINGS have (of several that nearest to 0, then the one below 0): it; how many.");
        serves(FOUR, -2, 2);
        serves("g3,5,8,4", -2, 2);
        serves("g1,1,1,1", 0, 4);
        serves("g1,1,1,1;tx99z99", 198, 4);
        serves("g1,1,1,1;tw99y99", -198, 4);
        serves(SIX, 0, 2);
        // GAPS -5, 5, 0 and -5, 0, 5, 1 more, 1 less
        serves("g2,9,3,3,1,2", 0, 2);
        serves("g2,9,9,3,1,1", 0, 2);
        serves("g2,9,3,3,1,2;tx1", 1, 2);
        serves("g2,9,9,3,1,1;tw1", -1, 2);
        // GAPS 6, 1, -4; 4, -1, -6; 7, 2, -3; 3, -2, -7; 10, 5, 0
        serves(SIX + ";tx1", 1, 2);
        serves(SIX + ";tw1", -1, 2);
        serves(SIX + ";tx2", 2, 2);
        serves(SIX + ";tx5", 0, 2);
        // across 3, 1, 2: GAPS 2, -1, -1; with leg 1 SHORT by 1: 3, 0, 0, by 3: 5, 2, 2; with leg 0 by 2: 0, -3, -3
        serves("g3,1,2,0,0,0", -1, 4);
        serves("g3,1,2,0,0,0;tx3", 2, 4);
        serves("g3,1,2,0,0,0;tw2", -3, 4);
        // across 0, 1, 3, 4, 6: GAPS -1, -2, -1, -2, 6
        serves("g0,1,3,4,6,0,0,0,0,0", -1, 4);
        // GAPS 2, 1, 2, 1, 9
        serves("g0,1,3,4,6,0,0,0,0,0;tx3", 1, 4);
        // across 0, 1, 0, 1, 5: GAPS -1, 1, -1, -4, 5; across 1, 0, 1, 0, 5: 1, -1, 1, -5, 4
        serves("g0,1,0,1,5,0,0,0,0,0", -1, 4);
        serves("g1,0,1,0,5,0,0,0,0,0", 1, 4);
        Sentence.of(27, "SERVES: the GAP (0), how many (1).");
        serves("g99,0,99,0", -198, 2);
        Sentence.of(27, "HIDDEN: no GARDEN, no such what.");
        for (int what : extremes(0, 1)) {
            Sentence.due("serves(" + what + ")", Check.garden(FOUR).serves(what), HIDDEN);
        }
        Sentence.due("no GARDEN: serves(0)", new RockingTable().serves(0), HIDDEN);
        Sentence.due("no GARDEN: serves(1)", new RockingTable().serves(1), HIDDEN);
    }

    private static void rocky(String text, int together, int above, int below) {
        Sentence.due("rocky(0) of " + text, Check.garden(text).rocky(0), together);
        Sentence.due("rocky(1) of " + text, Check.garden(text).rocky(1), above);
        Sentence.due("rocky(2) of " + text, Check.garden(text).rocky(2), below);
    }

    private static void rocky() {
        Sentence.of(28, "ROCKY: GAPS of all TURNINGS without their signs together; the most TURNINGS one behind the other "
                + "(round; all of them at most) with GAPS above 0; below 0.");
        rocky(FOUR, 8, 1, 1);
        rocky(SIX, 20, 1, 1);
        rocky("g1,1,1,1", 0, 0, 0);
        rocky("g1,1,1,1;tx1", 4, 4, 0);
        rocky("g1,1,1,1;tw1", 4, 0, 4);
        rocky("g" + "0,".repeat(23) + "0;tx99z99", 24 * 198, 24, 0);
        rocky("g" + "0,".repeat(23) + "0;tw99y99", 24 * 198, 0, 24);
        // across 3, 1, 2: GAPS 2, -1, -1; across 2, 3, 1: -1, 2, -1, round; across 1, 3, 2: -2, 1, 1; across 3, 2, 1: 1, 1, -2;
        // across 2, 1, 3: 1, -2, 1, round
        rocky("g3,1,2,0,0,0", 8, 1, 2);
        rocky("g2,3,1,0,0,0", 8, 1, 2);
        rocky("g1,3,2,0,0,0", 8, 2, 1);
        rocky("g3,2,1,0,0,0", 8, 2, 1);
        rocky("g2,1,3,0,0,0", 8, 2, 1);
        // GAPS of 12 POINTS: 7, 1, 1, 1, 1, -5, 7, .. and 6, 0, 0, 0, 0, -6
        rocky("g6,0,0,0,0,0,0,0,0,0,0,0;tx1", 32, 5, 1);
        rocky("g6,0,0,0,0,0,0,0,0,0,0,0", 24, 1, 1);
        Sentence.of(28, "ROCKY: together (0), above 0 (1), below 0 (2).");
        rocky("g99,0,99,0;tx99z99", 792, 1, 0);
        Sentence.of(28, "NONE: no GARDEN, no such what.");
        for (int what : extremes(0, 2)) {
            Sentence.due("rocky(" + what + ")", Check.garden(FOUR).rocky(what), NONE);
        }
        for (int what = 0; what < 3; what++) {
            Sentence.due("no GARDEN: rocky(" + what + ")", new RockingTable().rocky(what), NONE);
        }
    }

    private static void cheap(String text, int p, int heave, int cost, int turning, int much) {
        RockingTable table = Check.garden(text);
        String call = "cheap(" + p + ", " + heave + ", " + cost + ", ";
        Sentence.due(call + "0) of " + text, table.cheap(p, heave, cost, 0), turning);
        Sentence.due(call + "1) of " + text, table.cheap(p, heave, cost, 1), much);
    }

    private static void cheap() {
        Sentence.of(29, "CHEAP from a TURNING: HEAVE (0 .. 99) for each TURNING that it is turned (either way, the shorter one), "
                + "COST (0 .. 99) for each card of the fewest WEDGES there");
        // at 1 and 4 alone it STANDS, without cards
        cheap(SIX, 0, 10, 9, 1, 10);
        cheap(SIX, 1, 99, 99, 1, 0);
        cheap(SIX, 2, 99, 0, 1, 99);
        cheap(SIX, 3, 7, 0, 4, 7);
        cheap(SIX, 5, 1, 0, 4, 1);
        cheap(SIX, 5, 0, 0, 1, 0);
        // 1, 3, 1, 3 cards
        cheap(FOUR + ";tx1;cn3", 1, 99, 1, 1, 3);
        cheap(FOUR + ";tx1;cn3", 1, 1, 1, 0, 2);
        cheap(FOUR + ";tx1;cn3", 3, 1, 1, 0, 2);
        cheap(FOUR + ";tx1;cn3", 1, 99, 99, 0, 198);
        cheap(FOUR + ";tx1;cn3", 1, 99, 49, 1, 147);
        cheap(FOUR + ";tx1;cn3", 2, 0, 1, 0, 1);
        cheap(FOUR + ";tx1;cn3", 2, 1, 0, 2, 0);
        // 24 cards, none, 24, none
        cheap("g99,0,99,0;tx99z99;ct20n9;ct20n9;ct20n9;cn9", 0, 99, 4, 0, 96);
        cheap("g99,0,99,0;tx99z99;ct20n9;ct20n9;ct20n9;cn9", 0, 99, 5, 1, 99);
        // GAPS 6, 0, 0, 0, 0, -6 and 5, -1, -1, -1, -1, -7, with cards for 5 and 7 alone: from 2 to 5 or 0 by 3 or 2
        cheap("g6,0,0,0,0,0,0,0,0,0,0,0;tw1;ct5;ct7", 2, 1, 0, 0, 2);
        cheap("g6,0,0,0,0,0,0,0,0,0,0,0;tw1;ct5;ct7", 3, 1, 0, 5, 2);
        cheap("g6,0,0,0,0,0,0,0,0,0,0,0;tw1;ct5;ct7", 10, 1, 0, 11, 1);
        cheap("g6,0,0,0,0,0,0,0,0,0,0,0;tw1;ct5", 10, 3, 0, 0, 6);
        cheap("g6,0,0,0,0,0,0,0,0,0,0,0;tw1;ct5", 3, 3, 0, 0, 9);
        cheap("g6,0,0,0,0,0,0,0,0,0,0,0;tw1;ct5", 8, 3, 0, 6, 6);
        Sentence.of(29, "the TURNING by which both together are least (of several the lowest; those at which WEDGES can't do it left out): it, how much.");
        cheap(FOUR + ";tx2", 1, 5, 5, 0, 5);
        cheap(FOUR + ";tx2", 3, 5, 5, 0, 5);
        cheap("g3,0,1,0,0,0,0,0;ta2", 6, 5, 5, 5, 5);
        cheap("g3,0,1,0,0,0,0,0;ta2", 0, 5, 5, 1, 5);
        cheap(FOUR + ";tx1;c", 1, 9, 1, 0, 10);
        cheap(FOUR + ";tx1;c", 3, 99, 99, 0, 198);
        cheap(FOUR + ";tx1;cn3", 3, 2, 1, 0, 3);
    }

    private static void cheapRefused() {
        Sentence.of(29, "CHEAP: the TURNING (0), how much (1).");
        cheap("g1,1,1,1", 3, 99, 99, 3, 0);
        Sentence.of(29, "NONE: none, no such ones, out of bounds.");
        cheap(FOUR, 0, 1, 1, NONE, NONE);
        cheap(FOUR + ";ct3n9", 0, 1, 1, NONE, NONE);
        for (int p : extremes(0, 3)) {
            cheap("g1,1,1,1", p, 1, 1, NONE, NONE);
        }
        for (int out : extremes(0, 99)) {
            cheap("g1,1,1,1", 0, out, 1, NONE, NONE);
            cheap("g1,1,1,1", 0, 1, out, NONE, NONE);
        }
        for (int what : extremes(0, 1)) {
            Sentence.due("cheap(0, 1, 1, " + what + ")", Check.garden("g1,1,1,1").cheap(0, 1, 1, what), NONE);
        }
        Sentence.due("no GARDEN", new RockingTable().cheap(0, 1, 1, 0), NONE);
    }

    private static void piles(String text, int p, int want) {
        Sentence.due("piles(" + p + ") of " + text, Check.garden(text).piles(p), want);
    }

    private static void piles() {
        Sentence.of(30, "PILES at a TURNING: how many rows of net numbers of all sorts make it STAND (no more of a sort than there are).");
        piles("g1,1,1,1", 0, 1);
        piles("g2,1,1,1", 0, 0);
        piles("g1,1,1,1;cn0", 0, 1);
        piles("g1,1,1,1;ct20n9", 3, 1);
        piles("g2,1,1,1;cn0", 0, 0);
        piles("g2,1,1,1;c", 0, 1);
        piles("g2,1,1,1;c", 1, 1);
        piles("g3,1,1,1;c", 0, 0);
        piles("g1,1,1,1;cn2;cn2", 0, 5);
        piles("g1,1,1,1;c;c;c;c", 0, 19);
        piles("g5,1,1,1;c;c;c;c", 0, 1);
        piles("g6,1,1,1;c;c;c;c", 0, 0);
        piles("g4,1,1,1;c;c;c;c", 1, 4);
        piles("g37,1,1,1;cn9;cn9;cn9;cn9", 0, 1);
        piles("g37,1,1,1;cn9;cn9;cn9;cn9", 1, 1);
        piles("g38,1,1,1;cn9;cn9;cn9;cn9", 0, 0);
        piles("g36,1,1,1;cn9;cn9;cn9;cn9", 1, 4);
        piles("g99,0,99,0;tx99z99;ct11n9;ct11n9;ct11n9;ct11n9", 0, 1);
        int all = 0;
        for (int row = 0; row < 19 * 19 * 19; row++) {
            all += Math.abs(row % 19 + row / 19 % 19 + row / 361 - 27) <= 9 ? 1 : 0;
        }
        piles("g1,1,1,1;cn9;cn9;cn9;cn9", 0, all);
        // 3a + 2b + c = 2, each -1 .. 1: (0, 1, 0), (1, -1, 1), (1, 0, -1)
        piles("g1,3,1,1;ct3;ct2;c", 0, 3);
        piles("g1,4,1,1;c;ct2", 0, 1);
        piles("g1,4,1,1;ct2;c", 0, 1);
        piles("g1,4,1,1;cn0;cn0;ct2;c", 0, 1);
        // 360 by sorts 2 and 3 alone
        piles("g99,0,99,0;tx81z81;cn0;cn0;ct20n9;ct20n9", 0, 1);
        piles("g99,0,99,0;tx81z82;cn0;cn0;ct20n9;ct20n9", 0, 0);
        Sentence.of(30, "PILES.");
        piles(FOUR + ";ct2;ct3", 3, 1);
        Sentence.of(30, "NONE: no such TURNING.");
        for (int p : extremes(0, 3)) {
            piles("g1,1,1,1;c", p, NONE);
        }
        Sentence.due("no GARDEN", new RockingTable().piles(0), NONE);
    }

    /** Grounds one behind the other, told by the document's words alone, legs SHORT together by lean. */
    private static int standing(int n, long seed, int most, int span, int points, int angle, int lean) {
        BigInteger x = BigInteger.valueOf(seed);
        int found = 0;
        for (int i = 0; i < n; i++) {
            int[] h = new int[points];
            for (int k = 0; k < points; k++) {
                x = x.multiply(new BigInteger("6364136223846793005")).add(new BigInteger("1442695040888963407"))
                        .mod(BigInteger.ONE.shiftLeft(64));
                h[k] = x.shiftRight(33).mod(BigInteger.valueOf(most + 1)).intValue();
            }
            boolean stands = false;
            int was = 0;
            for (int q = 0; q <= span; q++) {
                int half = points / 2;
                int gap = h[q % points] + h[(q + half) % points] - h[(q + angle) % points] - h[(q + angle + half) % points] - lean;
                stands |= gap == 0 || was > 0 && gap < 0 || was < 0 && gap > 0;
                was = gap;
            }
            found += stands ? 1 : 0;
        }
        return found;
    }

    private static void trial() {
        Sentence.of(31, "TRIAL by a seed: of n (1 .. 50) grounds, one behind the other DRAWN (all HEIGHTS by a draw of most and 1 each) "
                + "in how many it STANDS WITHIN a span (0 .. POINTS) from TURNING 0.");
        RockingTable four = Check.garden(FOUR);
        RockingTable six = Check.garden(SIX + ";ta2w3");
        RockingTable twelve = Check.garden("g0,0,0,0,0,0,0,0,0,0,0,0;tx40");
        for (long seed : new long[] {0, 1, 7, -1, Long.MIN_VALUE, Long.MAX_VALUE}) {
            for (int n : new int[] {1, 2, 50}) {
                for (int most : new int[] {0, 1, 3, 99}) {
                    for (int span = 0; span <= 12; span += span == 2 ? 2 : 1) {
                        String call = "trial(" + n + ", " + seed + ", " + most + ", " + span + ")";
                        if (span <= 4) {
                            Sentence.due(call + " of 4 POINTS", four.trial(n, seed, most, span), standing(n, seed, most, span, 4, 1, 0));
                        }
                        if (span <= 6) {
                            Sentence.due(call + " of 6 POINTS", six.trial(n, seed, most, span), standing(n, seed, most, span, 6, 2, 3));
                        }
                        if (seed == 7) {
                            Sentence.due(call + " of 12 POINTS", twelve.trial(n, seed, most, span), standing(n, seed, most, span, 12, 1, -40));
                        }
                    }
                }
            }
        }
        Sentence.due("grounds of 0: all", four.trial(50, 3, 0, 0), 50);
        Sentence.due("grounds of 0, leg 1 SHORT: none", twelve.trial(50, 3, 0, 12), 0);
        Sentence.due("the ground is as it was", four.height(3), 8);
        Sentence.due("no ACT", four.count(7), 0);
    }

    private static void trialRefused() {
        Sentence.of(31, "TRIAL.");
        RockingTable table = Check.garden("g1,1,1,1");
        Sentence.due("trial(1, 5, 0, 4)", table.trial(1, 5, 0, 4), 1);
        Sentence.of(31, "NONE: no GARDEN, out of bounds.");
        for (int n : extremes(1, 50)) {
            Sentence.due("trial(" + n + ", 5, 0, 0)", table.trial(n, 5, 0, 0), NONE);
        }
        for (int most : extremes(0, 99)) {
            Sentence.due("trial(1, 5, " + most + ", 0)", table.trial(1, 5, most, 0), NONE);
        }
        for (int span : extremes(0, 4)) {
            Sentence.due("trial(1, 5, 0, " + span + ")", table.trial(1, 5, 0, span), NONE);
        }
        Sentence.due("no GARDEN", new RockingTable().trial(1, 5, 0, 0), NONE);
    }

    private static void flip(String text, int digits, int many) {
        Sentence.due("flip(0) of " + text, Check.garden(text).flip(0), digits);
        Sentence.due("flip(1) of " + text, Check.garden(text).flip(1), many);
    }

    private static void flip() {
        Sentence.of(32, "FLIP: of all 24 ways in which how SHORT the four legs are can be shared out among them that with the most STANDS "
                + "(of several the least): digits to the base 10 (whose leg 0 has, the highest, then 1, ..); how many.");
        flip(FOUR, 123, 4);
        flip("g1,1,1,1;tw5x5y5z5", 123, 4);
        flip("g1,1,1,1;tw1", 123, 0);
        // the two that are SHORT by 3 have to be against one another
        flip(FOUR + ";tw3y3", 132, 4);
        flip(FOUR + ";tw3x3", 123, 4);
        // GAPS 0 need 1 and 4 against 2 and 3
        flip("g1,1,1,1;tw1x2y3z4", 132, 4);
        flip("g1,1,1,1;tw1x3y4z2", 123, 4);
        // GAPS 3, -1, -1, -1 with whole legs; the most if legs 0 and 2 are 1 less SHORT: 1 and 9 against 4 and 7
        flip("g3,0,1,2,0,0,0,0;tw4x7y1z9", 2031, 6);
        flip("g3,0,1,2,0,0,0,0;tw1x4y7z9", 132, 6);
        flip("g3,0,1,2,0,0,0,0;tw4x1y7z9", 1032, 6);
        flip("g3,0,1,2,0,0,0,0;tw4x1y9z7", 1023, 6);
        flip("g3,0,1,2,0,0,0,0;tw1x9y7z4", 213, 6);
        Sentence.of(32, "FLIP: digits (0), how many (1).");
        RockingTable table = Check.garden(FOUR + ";tw3y3");
        table.flip(0);
        Sentence.due("how SHORT they are stays", table.shorter(0), 3);
        Sentence.due("how SHORT they are stays", table.shorter(3), 0);
        Sentence.due("STANDS are as they were", table.stands(NONE, 0), 0);
        Sentence.of(32, "NONE: no GARDEN, no such what.");
        for (int what : extremes(0, 1)) {
            Sentence.due("flip(" + what + ")", table.flip(what), NONE);
        }
        Sentence.due("no GARDEN: flip(0)", new RockingTable().flip(0), NONE);
        Sentence.due("no GARDEN: flip(1)", new RockingTable().flip(1), NONE);
    }

    private static void plane(String text, int p, int want) {
        Sentence.due("plane(" + p + ") of " + text, Check.garden(text).plane(p), want);
    }

    private static void plane() {
        Sentence.of(33, "PLANE: the fewest POINTS whose HEIGHTS have to be others (0 .. 99) so that GAP is 0 at a TURNING and at the next one "
                + "(round; two at most).");
        plane("g1,1,1,1", 0, 0);
        plane("g1,1,1,1", 3, 0);
        plane(FOUR, 0, 1);
        plane(FOUR, 3, 1);
        // GAP 0 at one of both alone
        plane("g5,0,0,0,0,0,0,0;ta2", 0, 1);
        plane("g5,0,0,0,0,0,0,0;ta2", 7, 1);
        plane("g0,5,0,0,0,0,0,0;ta2", 0, 1);
        plane("g0,0,5,0,0,0,0,0;ta2", 3, 1);
        // GAPS 99, -99 and 100, -100 of 4 POINTS: POINT 1 or 3 up to 99, or POINT 0 or 2 down to 0
        plane("g99,0,0,0", 0, 1);
        plane("g99,0,1,0", 0, 2);
        plane("g50,0,50,0", 0, 2);
        plane("g49,0,50,0", 0, 1);
        plane("g0,99,0,0", 3, 1);
        plane("g0,99,0,1", 3, 2);
        plane("g99,0,99,0", 3, 2);
        // six POINTS by ANGLE 1: POINT 1 is in both, once beneath leg 1, once beneath leg 0
        plane("g0,7,0,0,0,0", 0, 1);
        plane("g7,7,0,0,0,0", 0, 1);
        plane("g7,0,7,0,0,0", 0, 1);
        plane("g9,2,3,1,3,2", 0, 1);
        plane("g9,2,4,1,3,2", 0, 2);
        // GAP 50 at TURNING 23, which POINT 23 alone can make less, 0 at TURNING 0
        plane("g0,0,0,0,0,99,99,0,0,0,0,0,0,0,0,0,0,99,50,0,0,0,0,99;ta6x99z50", 23, 1);
    }

    private static void planeByTwo() {
        Sentence.of(33, "PLANE.");
        // TURNINGS 0 and 1 of eight POINTS by ANGLE 2 have no POINT in common
        plane("g5,7,0,0,0,0,0,0;ta2", 0, 2);
        plane("g5,7,0,0,0,0,0,0;ta2", 7, 2);
        plane("g5,7,0,0,0,0,0,0;ta2", 1, 2);
        Sentence.of(33, "NONE: it can't be by two at most, no such TURNING.");
        plane("g99,7,0,0,99,0,0,0;ta2", 0, NONE);
        plane("g99,0,0,0,99,0,0,0;ta2", 0, 2);
        // legs SHORT: the two GAPS of four POINTS can't both be 0
        plane(FOUR + ";tx1", 0, NONE);
        plane("g1,1,1,1;tw1", 0, NONE);
        plane("g1,1,1,1;tw1x1", 0, 0);
        // GAP 170 at 0, 0 at 1: POINTS 0 and 4 can be 90 and 10 lower, 2 and 6 be 80 and 20 higher; then 171
        plane("g90,0,19,84,10,0,79,84;ta2x84z84", 0, 2);
        plane("g90,0,19,85,10,0,79,84;ta2x85z84", 0, NONE);
        // the same below 0
        plane("g9,84,80,0,89,84,20,0;ta2w84y84", 0, 2);
        plane("g9,85,80,0,89,84,20,0;ta2w85y84", 0, NONE);
        // a POINT beneath no leg can't help
        plane("g90,0,19,85,0,10,0,79,84,0;ta2x85z84", 0, NONE);
        // it could be if one of two HEIGHTS were -1, 100, or the other one 100, -1
        plane("g0,79,0,0,99,0;tw88x99z28", 5, NONE);
        plane("g0,0,96,0,0,37;ta2w19x18z99", 0, NONE);
        plane("g0,22,0,0,0,85;ty84z99", 5, NONE);
        plane("g60,0,43,5,0,0;ta2w99x99z39", 2, NONE);
        // it could be if one of two HEIGHTS that change the same GAP were -1 or 100
        plane("g99,59,99,0,99,64,0,58;ta2w99x99z99", 5, NONE);
        plane("g99,99,0,98,0,99,0,0;ta2w99x99y99", 7, NONE);
        plane("g50,99,99,99,0,0;ta2z50", 3, NONE);
        plane("g33,0,34,99,0,0,99,0;ta2x99", 5, NONE);
        plane("g99,99,98,0,99,0,0,0;ta2x99", 3, NONE);
        plane("g0,39,99,0,10,25;tx75", 4, NONE);
        plane("g0,99,0,0,99,1;ta2y98z99", 0, NONE);
        // two HEIGHTS that change the same GAP against one another can't make up for what they could alike
        plane("g89,0,20,99,99,0,2,99;ta2x99z99", 5, NONE);
        plane("g99,0,99,99,53,0,3,99;ta2w99y99", 7, NONE);
        plane("g99,99,11,0,63,0,67,0;ta2w99", 5, 2);
        plane("g99,71,99,62,99,0,0,78;ta2y99", 0, 2);
        for (int p : extremes(0, 3)) {
            plane("g1,1,1,1", p, NONE);
        }
        Sentence.due("no GARDEN", new RockingTable().plane(0), NONE);
        RockingTable table = Check.garden(FOUR);
        table.plane(0);
        Sentence.due("no HEIGHT is another by it", table.height(0), 5);
    }

    /** No POINT alone and no other two can do it, but these two can: they were sought by trying all HEIGHTS. */
    private static void byThese(String text, int p, int q, int heightQ, int r, int heightR) {
        plane(text, p, 2);
        RockingTable table = Check.garden(text);
        table.heap(q, heightQ);
        table.heap(r, heightR);
        Sentence.due("plane(" + p + ") of " + text + " by POINTS " + q + " and " + r, table.plane(p), 0);
    }

    private static void planeByTheseAlone() {
        Sentence.of(33, "PLANE: the fewest POINTS whose HEIGHTS have to be others (0 .. 99) so that GAP is 0 at a TURNING and at the next one "
                + "(round; two at most).");
        byThese("g99,0,99,99,37,99;tx99y99", 3, 1, 99, 4, 99);
        byThese("g0,0,99,0,0,58;ta2", 5, 2, 0, 5, 0);
        byThese("g0,0,0,35,0,35,99,99;ta2z99", 3, 1, 99, 7, 0);
        byThese("g0,99,99,63,0,46,99,0;ta2x99z99", 7, 3, 0, 5, 99);
        byThese("g34,99,99,99,0,99,99,0;tw99z99", 4, 0, 99, 4, 99);
        byThese("g99,99,64,0,99,34;tz99", 2, 2, 0, 5, 0);
        byThese("g99,0,0,99,0,0,26,99;ta2w99y99", 7, 4, 99, 6, 0);
        byThese("g32,99,99,0,0,99,48,0;ta2w99y99", 5, 0, 0, 6, 99);
        byThese("g0,99,99,29,99,99;tw99x99", 4, 0, 99, 3, 99);
        byThese("g0,99,0,0,0,99,99,0;tx99y99", 3, 1, 0, 5, 0);
        byThese("g99,0,0,0,0,0,0,0,99,0;ta4w99", 3, 4, 99, 9, 99);
        byThese("g0,91,99,0,0,0,99,0,99,0;ta4y99z99", 0, 1, 0, 6, 0);
        byThese("g0,99,99,99,0,99,99,99,0,99;ta2x6z99", 9, 5, 93, 9, 93);
        byThese("g99,99,0,0,99,99,99,99,49,0;ta2w17x99y17z99", 3, 4, 34, 8, 34);
        byThese("g99,0,99,0,0,0,99,0,11,0;ta3w27y99", 5, 1, 27, 5, 38);
        byThese("g0,99,99,0,99,0,0,0,99,0;tw37x45y99", 2, 4, 8, 7, 91);
        byThese("g99,99,99,99,0,0,0,99,0,0;ta3w99y99z63", 1, 0, 63, 6, 36);
        byThese("g0,99,99,99,0,0,99,0,99,99;ta3w99x2y99z28", 1, 7, 69, 9, 30);
        byThese("g99,0,0,92,99,0,99,0,0,99;ta2w78y99", 4, 5, 78, 6, 21);
        byThese("g99,99,0,0,99,29,82,99,21,0;ta3w63y99", 5, 4, 19, 5, 84);
        byThese("g0,99,99,0,99,56,99,0;ta2w99x7y99", 1, 4, 7, 5, 92);
        byThese("g99,99,62,99,5,0,99,0,99,0;tx2y99", 3, 0, 4, 9, 96);
        byThese("g0,0,0,0,12,99,99,4,99,41;ta4w99z37", 8, 4, 87, 8, 66);
        byThese("g99,0,40,0,99,0,99,99;tw6x99y9", 1, 3, 69, 6, 44);
        byThese("g0,99,99,0,99,99,0,0,99,99;tw99", 6, 6, 99, 8, 0);
        byThese("g0,0,0,99,99,99,0,99,0,0;ta4w99", 3, 7, 0, 9, 99);
        byThese("g0,99,0,99,99,99,0,0,99,0;ta2w53x99z99", 1, 1, 53, 9, 46);
        byThese("g99,0,40,0,99,99,0,0,99,0;ta3w99y31", 3, 3, 31, 9, 71);
        byThese("g0,0,99,0,0,99,0,0;ta2w12x91z60", 7, 1, 40, 6, 40);
        byThese("g99,99,0,99,29,99,0,99,11,99;ta2w99y23", 9, 1, 6, 7, 76);
        byThese("g99,99,0,99,75,0,0,99,99,99;ta3x36z80", 5, 0, 82, 1, 58);
        byThese("g99,99,0,0,0,99,99,0,10,99;ta3w99y99", 0, 8, 0, 9, 0);
        byThese("g99,99,99,99,99,99,68,0,0,99;ta2w99y25", 5, 2, 74, 3, 43);
        byThese("g99,99,99,19,0,99,99,0,0,0", 4, 4, 99, 9, 99);
        byThese("g99,0,99,51,0,99,0,0,99,99;tx99", 3, 3, 0, 8, 0);
        byThese("g99,99,99,99,99,50,99,12,0,99;tw99x92z99", 7, 2, 2, 8, 7);
        byThese("g99,89,26,99,0,0,0,0,99,31;tx99y20", 1, 1, 40, 7, 93);
        byThese("g0,37,0,99,0,44,99,0,95,99;tw99x41", 0, 0, 72, 6, 21);
        byThese("g0,0,99,0,99,0,99,99,99,23;ta4w9z99", 4, 3, 81, 4, 67);
        byThese("g99,0,7,43,0,99,99,0,99,0;tw99x76z63", 1, 6, 62, 7, 95);
        byThese("g99,99,0,66,0,99,56,30,99,0;ta4w39", 7, 1, 31, 2, 96);
        byThese("g0,99,99,0,0,99,0,99,27,99;ta4w10z99", 3, 3, 82, 9, 20);
        byThese("g0,97,0,58,0,99,99,99,99,99;tw99x10z27", 1, 2, 35, 8, 14);
        byThese("g0,99,99,99,0,62,0,99;tw5z99", 0, 1, 32, 6, 89);
        byThese("g62,0,99,99,0,99,99,99,99,99;ta4z51", 4, 4, 48, 5, 34);
        byThese("g0,0,0,63,99,99,99,0,99,39;tw28x99", 7, 8, 8, 9, 43);
        byThese("g0,20,0,99,0,99,0,0,99,78;ta4w5z99", 9, 4, 26, 5, 10);
        byThese("g99,0,99,99,0,99,31,0,36,0;tw18y80", 7, 3, 62, 7, 97);
        byThese("g70,0,99,99,0,99,99,96,38,0;ta4y94z40", 1, 1, 42, 5, 17);
        byThese("g0,0,91,0,0,78,47,99,99,0;tx17z64", 0, 1, 62, 5, 28);
        byThese("g99,0,99,99,0,99,0,44,99,0;tw99x99", 3, 4, 99, 9, 99);
        byThese("g0,99,99,0,99,5,99,99,99,99;ta4x99y99", 5, 0, 99, 5, 99);
    }
}
