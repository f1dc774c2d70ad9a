/** Promises 10 to 14: GAP, TILT, STANDS, LEVELLEST, WITHIN. */
final class PlaceSentences {
    private static final int NONE = RockingTable.NONE;
    private static final int HIDDEN = RockingTable.HIDDEN;
    /** GAPS -2, 2, -2, 2; legs 0 and 2 apart by 1, -5, -1, 5, legs 1 and 3 by -5, -1, 5, 1. */
    private static final String FOUR = "g5,3,4,8";
    /** GAPS 5, 0, -5, 5, 0, -5. */
    private static final String SIX = "g9,2,3,1,3,2";
    /** Each HEIGHT can be told from sums. */
    private static final String POWERS = "g1,2,4,8,16,32";

    private PlaceSentences() {
    }

    static void ask() {
        gap();
        tilt();
        stands();
        standsRefused();
        level();
        within();
    }

    private static int[] extremes(int least, int most) {
        return new int[] {least - 1, most + 1, Integer.MIN_VALUE, Integer.MAX_VALUE};
    }

    private static void gaps(String text, int... want) {
        RockingTable table = Check.garden(text);
        for (int p = 0; p < want.length; p++) {
            Sentence.due("gap(" + p + ") of " + text, table.gap(p), want[p]);
        }
    }

    private static void tilts(String text, int... want) {
        RockingTable table = Check.garden(text);
        for (int p = 0; p < want.length; p++) {
            Sentence.due("tilt(" + p + ") of " + text, table.tilt(p), want[p]);
        }
    }

    private static void gap() {
        Sentence.of(10, "At TURNING p (0 .. POINTS less 1) leg 0 stands on POINT p, leg 1 ANGLE behind it, "
                + "leg 2 half of the POINTS behind leg 0, leg 3 half of them behind leg 1 (round).");
        gaps(POWERS, 1 + 8 - 2 - 16, 2 + 16 - 4 - 32, 4 + 32 - 8 - 1, 8 + 1 - 16 - 2, 16 + 2 - 32 - 4, 32 + 4 - 1 - 8);
        gaps(POWERS + ";ta2", 1 + 8 - 4 - 32, 2 + 16 - 8 - 1, 4 + 32 - 16 - 2, 8 + 1 - 32 - 4, 16 + 2 - 1 - 8, 32 + 4 - 2 - 16);
        gaps("g1,2,4,8", 1 + 4 - 2 - 8, 2 + 8 - 4 - 1, 4 + 1 - 8 - 2, 8 + 2 - 1 - 4);
        RockingTable table = Check.garden("ta11;g0,0,0,0,0,0,0,0,0,0,7,1,0,0,0,0,0,0,0,0,0,0,9,3");
        Sentence.due("24 POINTS: gap(23), leg 1 on 10, leg 2 on 11, leg 3 on 22", table.gap(23), 3 + 1 - 7 - 9);
        Sentence.due("24 POINTS: gap(0), leg 1 on 11, leg 3 on 23", table.gap(0), -1 - 3);
        Sentence.due("24 POINTS: gap(12), the same legs turned", table.gap(12), -1 - 3);
        Sentence.of(10, "A leg REACHES the HEIGHT of its POINT less how SHORT it is.");
        gaps("g1,2,4,8;tw10x20y40z80", -9 - 36 + 18 + 72, -8 - 32 + 16 + 79, -6 - 39 + 12 + 78, -2 - 38 + 19 + 76);
        gaps("g0,0,0,0;tw99y99", -198, -198, -198, -198);
        Sentence.of(10, "GAP: what legs 0 and 2 REACH together less what legs 1 and 3 REACH.");
        gaps("g99,0,99,0;tx99z99", 396, 0, 396, 0);
        gaps("g0,99,0,99;tw99y99", -396, 0, -396, 0);
        Sentence.of(10, "GAP.");
        gaps(FOUR, -2, 2, -2, 2);
        gaps(SIX, 5, 0, -5, 5, 0, -5);
        Sentence.of(10, "HIDDEN: no such TURNING.");
        table = Check.garden(FOUR);
        for (int p : extremes(0, 3)) {
            Sentence.due("gap(" + p + ")", table.gap(p), HIDDEN);
        }
        Sentence.due("24 POINTS: gap(24)", Check.garden("g" + "1,".repeat(23) + "1").gap(24), HIDDEN);
        Sentence.due("no GARDEN", new RockingTable().gap(0), HIDDEN);
    }

    private static void tilt() {
        Sentence.of(11, "TILT at a TURNING: the greater of how far legs 0 and 2 REACH apart, and legs 1 and 3");
        tilts(FOUR, 5, 5, 5, 5);
        tilts(POWERS + ";ta2", 28, 14, 28, 28, 14, 28);
        tilts("g1,9,1,0", 9, 9, 9, 9);
        tilts("g3,3,3,3", 0, 0, 0, 0);
        tilts("g3,3,3,3;tw2", 2, 2, 2, 2);
        tilts("g3,3,3,3;tw2x5y2z5", 0, 0, 0, 0);
        // leg 1 lower by 5: 3 - 5 - 8, 4 - 5 - 5, 8 - 5 - 3, 5 - 5 - 4
        tilts(FOUR + ";tx5", 10, 6, 1, 5);
        tilts("g99,0,0,0;ty99", 198, 99, 99 - 99, 99);
        Sentence.of(11, "TILT.");
        Sentence.due("the last one", Check.garden(POWERS).tilt(5), Math.max(32 - 4, 8 - 1));
        Sentence.of(11, "NONE: no such TURNING.");
        RockingTable table = Check.garden(FOUR);
        for (int p : extremes(0, 3)) {
            Sentence.due("tilt(" + p + ")", table.tilt(p), NONE);
        }
        Sentence.due("no GARDEN", new RockingTable().tilt(0), NONE);
    }

    /** All places as told, and no more. */
    private static void places(String text, int[]... want) {
        RockingTable table = Check.garden(text);
        Sentence.due("stands(-1, 0) of " + text, table.stands(NONE, 0), want.length);
        for (int i = 0; i < want.length; i++) {
            for (int what = 0; what < 3; what++) {
                Sentence.due("stands(" + i + ", " + what + ") of " + text, table.stands(i, what), want[i][what]);
            }
        }
        Sentence.due("stands(" + want.length + ", 0) of " + text, table.stands(want.length, 0), NONE);
    }

    private static int[] at(int p, int above, int below) {
        return new int[] {p, above, below};
    }

    private static void stands() {
        Sentence.of(12, "STANDS, all of them: TURNINGS p at which GAP is 0, and, between p and the next one, "
                + "if one GAP is above 0 and the other one below: p and a fraction (made plain).");
        places("g7,7,7,7", at(0, 0, 1), at(1, 0, 1), at(2, 0, 1), at(3, 0, 1));
        places(FOUR, at(0, 1, 2), at(1, 1, 2), at(2, 1, 2), at(3, 1, 2));
        // GAPS 5, 0, -5: by what is at 1 there is nothing between 0 and 1, or 1 and 2
        places(SIX, at(1, 0, 1), at(2, 1, 2), at(4, 0, 1), at(5, 1, 2));
        // GAPS 0, 4, 0, 4 and 0, -4, 0, -4
        places(FOUR + ";tx2", at(0, 0, 1), at(2, 0, 1));
        places(FOUR + ";tw2", at(1, 0, 1), at(3, 0, 1));
        // GAPS 1, 5, 1, 5 and -5, -1, -5, -1
        places(FOUR + ";tx3");
        places(FOUR + ";tw3");
        // GAPS 10, -2, ..: 10 of 12, 2 of 12
        places("g8,2,8,8;tx4", at(0, 5, 6), at(1, 1, 6), at(2, 5, 6), at(3, 1, 6));
        // GAPS -1, 3: 1 of 4, 3 of 4
        places(FOUR + ";tx1", at(0, 1, 4), at(1, 3, 4), at(2, 1, 4), at(3, 3, 4));
        // across 3, 0, 1, 0: GAPS by ANGLE 2: 2, 0, -2, 0
        places("g3,0,1,0,0,0,0,0;ta2", at(1, 0, 1), at(3, 0, 1), at(5, 0, 1), at(7, 0, 1));
        Sentence.of(12, "Between TURNINGS p and the next one (round) GAP goes straight.");
        // GAPS 1, 5, -6: 5 of 11, 6 of 7; between 5 and 0
        places("g6,5,0,0,0,0", at(1, 5, 11), at(2, 6, 7), at(4, 5, 11), at(5, 6, 7));
        Sentence.of(12, "It STANDS where GAP is 0.");
        places("g1,1,1,1,1,1;ta2", at(0, 0, 1), at(1, 0, 1), at(2, 0, 1), at(3, 0, 1), at(4, 0, 1), at(5, 0, 1));
        RockingTable most = Check.garden("g9" + ",0,9".repeat(11) + ",0");
        Sentence.due("24 POINTS, 18 and -18 by turns: nowhere else", most.stands(NONE, 0), 24);
        Sentence.due("the last of them", most.stands(23, 0), 23);
        Sentence.due("the last of them, above", most.stands(23, 1), 1);
        Sentence.due("the last of them, below", most.stands(23, 2), 2);
    }

    private static void standsRefused() {
        Sentence.of(12, "STANDS: how many (i NONE, what 0), of the i-th p (0), the fraction above (1), below (2; 0 by 1 at p itself).");
        RockingTable table = Check.garden(SIX);
        Sentence.due("stands(-1, 0)", table.stands(NONE, 0), 4);
        Sentence.due("at p itself: above", table.stands(0, 1), 0);
        Sentence.due("at p itself: below", table.stands(0, 2), 1);
        Sentence.due("none of them", Check.garden(FOUR + ";tx3").stands(NONE, 0), 0);
        Sentence.of(12, "NONE: no such ones.");
        for (int i : new int[] {4, 5, -2, Integer.MIN_VALUE, Integer.MAX_VALUE}) {
            for (int what = 0; what < 3; what++) {
                Sentence.due("stands(" + i + ", " + what + ")", table.stands(i, what), NONE);
            }
        }
        for (int what : extremes(0, 2)) {
            Sentence.due("stands(0, " + what + ")", table.stands(0, what), NONE);
            Sentence.due("stands(-1, " + what + ")", table.stands(NONE, what), NONE);
        }
        Sentence.due("stands(-1, 1)", table.stands(NONE, 1), NONE);
        Sentence.due("stands(-1, 2)", table.stands(NONE, 2), NONE);
        Sentence.due("it never STANDS: stands(0, 0)", Check.garden(FOUR + ";tx3").stands(0, 0), NONE);
        Sentence.due("no GARDEN: stands(-1, 0)", new RockingTable().stands(NONE, 0), NONE);
        Sentence.due("no GARDEN: stands(0, 0)", new RockingTable().stands(0, 0), NONE);
    }

    private static void levels(String text, long... want) {
        RockingTable table = Check.garden(text);
        for (int what = 0; what < want.length; what++) {
            Sentence.due("level(" + what + ") of " + text, table.level(what), want[what]);
        }
    }

    private static void level() {
        Sentence.of(13, "LEVELLEST: that of all STANDS with the least TILT (of several the first from 0 on).");
        // 3 at each of them
        levels(FOUR, 0, 1, 2, 3, 1);
        levels("g7,7,7,7", 0, 0, 1, 0, 1);
        // GAPS 0, 4, 0, 4; at 0 it TILTS by 7, at 2 by 3
        levels(FOUR + ";tx2", 2, 0, 1, 3, 1);
        // at 1 and 1/4, 2 and 3/5, 4 and 1/4, 5 and 3/5 by 1
        levels("g8,4,1,7,3,2", 1, 1, 4, 1, 1);
        // at 0 and 3/14, 1 and 11/28 by 4, at 3 and 3/14, 4 and 11/28 by 2
        levels("g7,0,8,8,1,7;ta2z3", 3, 3, 14, 2, 1);
        Sentence.of(13, "between TURNINGS each of these two (with its sign) goes straight");
        // at 0 and 1/2: legs 0 and 2 by 1 and -5, legs 1 and 3 by -5 and -1
        levels(FOUR, 0, 1, 2, 3, 1);
        // at 0 and 1/2: legs 0 and 2 by 0 and 3, legs 1 and 3 by 3 and 0; at 1 and 1/2: by 3 and 0, 0 and -3
        levels("g2,4,2,1", 0, 1, 2, 3, 2);
        // between 3 and 0, 2/3: legs 0 and 2 by -3 and -2, legs 1 and 3 by -3 and 4; all others by more
        levels("g2,4,5,0;ty1", 3, 2, 3, 7, 3);
        Sentence.of(13, "LEVELLEST: p (0), the fraction above (1), below (2), TILT above (3), below (4; made plain).");
        // at 1 and 3/4: by -2 and 5/2; at 0 and 1/4: by -1/2 and -5
        levels(FOUR + ";tx1", 1, 3, 4, 5, 2);
        levels("g99,99,99,99", 0, 0, 1, 0, 1);
        levels("g99,0,0,99", 0, 0, 1, 99, 1);
        Sentence.of(13, "NONE: it never STANDS, no GARDEN, no such what.");
        for (int what = 0; what < 5; what++) {
            Sentence.due("it never STANDS: level(" + what + ")", Check.garden(FOUR + ";tx3").level(what), NONE);
            Sentence.due("no GARDEN: level(" + what + ")", new RockingTable().level(what), NONE);
        }
        for (int what : extremes(0, 4)) {
            Sentence.due("level(" + what + ")", Check.garden(FOUR).level(what), NONE);
        }
    }

    private static void first(RockingTable table, int p, int span, int... want) {
        for (int what = 0; what < 3; what++) {
            int due = want.length == 0 ? NONE : want[what];
            Sentence.due("within(" + p + ", " + span + ", " + what + ")", table.within(p, span, what), due);
        }
    }

    private static void within() {
        Sentence.of(14, "WITHIN: the first of all STANDS from a TURNING on, no more than so many TURNINGS behind it (round).");
        // at 1, 2 and 1/2, 4, 5 and 1/2
        RockingTable table = Check.garden(SIX);
        first(table, 0, 0);
        first(table, 0, 1, 1, 0, 1);
        first(table, 1, 0, 1, 0, 1);
        first(table, 1, 6, 1, 0, 1);
        first(table, 2, 0);
        first(table, 2, 1, 2, 1, 2);
        first(table, 3, 0);
        first(table, 3, 1, 4, 0, 1);
        first(table, 5, 0);
        first(table, 5, 1, 5, 1, 2);
        // GAPS 0, 4, 0, 4
        table = Check.garden(FOUR + ";tx2");
        first(table, 3, 0);
        first(table, 3, 1, 0, 0, 1);
        first(table, 3, 4, 0, 0, 1);
        // across 0, 0, 3: GAPS 0, -3, 3 with whole legs, 1, -2, 4 with leg 1 SHORT by 1
        table = Check.garden("g0,0,3,0,0,0;tx1");
        first(table, 0, 0);
        first(table, 0, 1, 0, 1, 3);
        first(table, 1, 1, 1, 1, 3);
        first(table, 2, 1);
        first(table, 2, 2, 3, 1, 3);
        first(table, 5, 1);
        first(table, 5, 2, 0, 1, 3);
        // across 6, 0, .. 0: GAPS 6, 0, .., -6 by ANGLE 1, 7, 1, .., -5 with leg 1 SHORT by 1
        table = Check.garden("g6,0,0,0,0,0,0,0,0,0,0,0;tx1");
        first(table, 0, 4);
        first(table, 0, 5, 4, 1, 6);
        first(table, 6, 4);
        first(table, 6, 5, 10, 1, 6);
        first(table, 11, 0);
        first(table, 11, 1, 11, 5, 12);
        first(table, 8, 2);
        first(table, 8, 3, 10, 1, 6);
        Sentence.of(14, "WITHIN (from a TURNING, span 0 .. POINTS): p (0), the fraction above (1), below (2).");
        table = Check.garden(SIX);
        first(table, 0, 6, 1, 0, 1);
        first(table, 5, 6, 5, 1, 2);
        first(Check.garden("g1,1,1,1"), 3, 0, 3, 0, 1);
        first(Check.garden("g1,1,1,1"), 3, 4, 3, 0, 1);
        Sentence.of(14, "NONE: none, no such ones.");
        first(Check.garden(FOUR + ";tx3"), 0, 4);
        for (int span : extremes(0, 6)) {
            first(table, 1, span);
        }
        for (int p : extremes(0, 5)) {
            first(table, p, 6);
        }
        for (int what : extremes(0, 2)) {
            Sentence.due("within(1, 0, " + what + ")", table.within(1, 0, what), NONE);
        }
        first(new RockingTable(), 0, 0);
    }
}
