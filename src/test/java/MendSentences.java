import java.util.ArrayList;
import java.util.List;
import java.util.TreeMap;

/** Promises 16 to 24: sawing, cards, what is found by how it rocked, other ANGLES, sinking ground. */
final class MendSentences {
    private static final int NONE = RockingTable.NONE;
    private static final int HIDDEN = RockingTable.HIDDEN;
    /** GAPS -2, 2, -2, 2. */
    private static final String FOUR = "g5,3,4,8";
    /** Across 3, 0, 1, 0: GAPS by ANGLE 1: 3, -1, 1, -3, by 2: 2, 0, -2, 0, by 3: 3, -3, 1, -1. */
    private static final String EIGHT = "g3,0,1,0,0,0,0,0";

    private MendSentences() {
    }

    static void ask() {
        sawn();
        less();
        wedges();
        wedgesRefused();
        rock();
        shorts();
        heights();
        angles();
        steady();
        likely();
        likelyParts();
    }

    private static int[] extremes(int least, int most) {
        return new int[] {least - 1, most + 1, Integer.MIN_VALUE, Integer.MAX_VALUE};
    }

    private static String flat(int points) {
        return "g" + "1,".repeat(points - 1) + "1";
    }

    private static void sawn(String text, int p, int leg, int by) {
        RockingTable table = Check.garden(text);
        Sentence.due("sawn(" + p + ", 0) of " + text, table.sawn(p, 0), leg);
        Sentence.due("sawn(" + p + ", 1) of " + text, table.sawn(p, 1), by);
    }

    private static void sawn() {
        Sentence.of(16, "SAWN: by how much a leg has to be more SHORT so that it STANDS at a TURNING "
                + "(which: the lowest leg of those by which it can be; 0 and leg 0, if it STANDS).");
        sawn(FOUR, 0, 1, 2);
        sawn(FOUR, 1, 0, 2);
        sawn(FOUR, 3, 0, 2);
        sawn(FOUR + ";tx2", 0, 0, 0);
        sawn(FOUR + ";tx2", 3, 0, 4);
        sawn("g1,1,1,1;tw99x99y99z99", 0, 0, 0);
        sawn("g9,0,0,0", 0, 0, 9);
        sawn("g2,1,1,1", 0, 0, 1);
        sawn("g2,1,1,1", 1, 1, 1);
        sawn("g0,0,0,9", 0, 1, 9);
        Sentence.of(16, "SAWN: the leg (0), by how much (1).");
        sawn("g99,0,0,0", 0, 0, 99);
        sawn("g0,99,0,0", 0, 1, 99);
        // GAP 98, 99 by leg 2, 99 by none
        sawn("g99,0,0,0;tw1", 0, 0, 98);
        sawn("g99,0,1,0;tw1", 0, 2, 99);
        sawn("g99,0,2,0;tw1y1", 0, NONE, NONE);
        sawn("g0,99,0,0;tx1", 0, 1, 98);
        sawn("g0,99,0,1;tx1", 0, 3, 99);
        sawn("g0,99,0,2;tx1z1", 0, NONE, NONE);
        Sentence.of(16, "NONE: it can't be (SHORT 99 at most), no such ones.");
        sawn("g99,0,1,0", 0, NONE, NONE);
        sawn("g0,99,0,1", 0, NONE, NONE);
        sawn("g99,0,99,0;tx99z99", 0, NONE, NONE);
        sawn("g1,0,0,0;tw99x99y99z99", 0, NONE, NONE);
        sawn("g1,0,0,0;tw99x99y99z99", 1, NONE, NONE);
        // GAP -1, -2
        sawn("g0,0,0,0;tw99x99y99z98", 0, 3, 1);
        sawn("g0,1,0,0;tw99x99y99z98", 0, NONE, NONE);
        RockingTable table = Check.garden(FOUR);
        for (int p : extremes(0, 3)) {
            Sentence.due("sawn(" + p + ", 0)", table.sawn(p, 0), NONE);
            Sentence.due("sawn(" + p + ", 1)", table.sawn(p, 1), NONE);
        }
        for (int what : extremes(0, 1)) {
            Sentence.due("sawn(0, " + what + ")", table.sawn(0, what), NONE);
            Sentence.due("it STANDS: sawn(0, " + what + ")", Check.garden("g1,1,1,1").sawn(0, what), NONE);
        }
        Sentence.due("no GARDEN", new RockingTable().sawn(0, 0), NONE);
        Sentence.due("nothing was sawn", table.less(), 0);
    }

    private static void less() {
        Sentence.of(17, "LESS: how much all legs are SHORT together.");
        Sentence.due("none", Check.garden(FOUR).less(), 0);
        Sentence.due("all by 99", Check.garden(FOUR + ";tw99x99y99z99").less(), 396);
        Sentence.due("1, 20, 3, 40", Check.garden(FOUR + ";tw1x20y3z40").less(), 64);
        Sentence.of(17, "LESS.");
        RockingTable table = Check.garden(FOUR + ";tz1");
        table.saw(3, 98);
        Sentence.due("as they are now", table.less(), 99);
        Sentence.of(17, "NONE: no GARDEN.");
        Sentence.due("less()", new RockingTable().less(), NONE);
    }

    private static void wedged(String text, int p, int fewest, int... nets) {
        RockingTable table = Check.garden(text);
        Sentence.due("wedges(" + p + ", -1) of " + text, table.wedges(p, NONE), fewest);
        for (int sort = 0; sort < nets.length; sort++) {
            Sentence.due("wedges(" + p + ", " + sort + ") of " + text, table.wedges(p, sort), nets[sort]);
        }
        Sentence.due("wedges(" + p + ", " + nets.length + ") of " + text, table.wedges(p, nets.length), HIDDEN);
    }

    /** GAP of this GROUND at TURNING 0 is so many below 0, at 1 above. */
    private static String below(int gap) {
        return "g0," + gap + ",0,0";
    }

    private static void wedges() {
        Sentence.of(18, "WEDGES at a TURNING: CARDS beneath legs so that it STANDS, of each sort no more than there are, "
                + "a leg REACHES THICK more by each");
        wedged(below(1) + ";c", 0, 1, 1);
        wedged(below(1) + ";c", 1, 1, -1);
        wedged(below(2) + ";c", 0, HIDDEN, HIDDEN);
        wedged(below(2) + ";cn2", 0, 2, 2);
        wedged(below(9) + ";cn9", 0, 9, 9);
        wedged(below(9) + ";cn9", 1, 9, -9);
        wedged(below(10) + ";cn9", 0, HIDDEN, HIDDEN);
        wedged(below(10) + ";cn9", 1, HIDDEN, HIDDEN);
        wedged(below(20) + ";ct20", 0, 1, 1);
        wedged(below(1) + ";cn0", 0, HIDDEN, HIDDEN);
        wedged(below(3) + ";cn0;ct3", 0, 1, 0, 1);
        wedged("g1,1,1,1;cn0", 0, 0, 0);
        wedged("g1,1,1,1;ct5n9", 0, 0, 0);
        wedged("g99,0,99,0;tx99z99;ct20n9;ct20n9;ct20n9;cn9", 0, 24, -9, -9, -2, 4);
        wedged("g0,99,0,99;tw99y99;ct20n9;ct20n9;ct20n9;cn9", 0, 24, 2, 9, 9, -4);
        wedged("g99,0,99,0;tx81z81;cn0;cn0;ct20n9;ct20n9", 0, 18, 0, 0, -9, -9);
        wedged("g0,99,0,99;tw81y81;cn0;cn0;ct20n9;ct20n9", 0, 18, 0, 0, 9, 9);
        wedged("g99,0,99,0;tx81z81;ct20n9;ct20n9", 0, 18, -9, -9);
        wedged("g99,0,99,0;tx99z99;ct11n9;ct11n9;ct11n9;ct11n9", 0, 36, -9, -9, -9, -9);
        wedged("g99,0,99,0;tx99z99;ct11n9;ct11n9;ct11n9;ct11n8", 0, HIDDEN, HIDDEN, HIDDEN, HIDDEN, HIDDEN);
        Sentence.of(18, "the fewest (of a sort beneath legs 0 or 2, or beneath 1 or 3, alone)");
        wedged(below(1) + ";ct3;ct2", 0, 2, 1, -1);
        wedged(below(1) + ";ct3;ct2", 1, 2, -1, 1);
        wedged(below(6) + ";cn9;ct2n9;ct3n9;ct6", 0, 1, 0, 0, 0, 1);
        wedged(below(6) + ";cn9;ct2n9;ct3n9", 0, 2, 0, 0, 2);
        wedged(below(19) + ";cn9;ct20n9", 0, 2, -1, 1);
        wedged(below(4) + ";cn3;ct5", 0, 2, -1, 1);
        Sentence.of(18, "of several the one with the least net numbers: of each sort those beneath 0 and 2 less those "
                + "beneath 1 and 3, the first sort first.");
        wedged(below(1) + ";c;c", 0, 1, 0, 1);
        wedged(below(1) + ";c;c", 1, 1, -1, 0);
        wedged(below(1) + ";c;c;c;c", 0, 1, 0, 0, 0, 1);
        wedged(below(1) + ";c;c;c;c", 1, 1, -1, 0, 0, 0);
        wedged(below(2) + ";c;c;c;c", 0, 2, 0, 0, 1, 1);
        wedged(below(2) + ";c;c;c;c", 1, 2, -1, -1, 0, 0);
        wedged(below(3) + ";cn2;cn2;cn2;cn2", 0, 3, 0, 0, 1, 2);
        wedged(below(3) + ";cn2;cn2;cn2;cn2", 1, 3, -2, -1, 0, 0);
        // 4 is 5 less 1, or 2 and 2
        wedged(below(4) + ";ct5;c;ct2n2", 0, 2, 0, 0, 2);
        wedged(below(4) + ";ct5;c;ct2n2", 1, 2, -1, 1, 0);
        wedged(below(4) + ";ct2n2;ct5;c", 0, 2, 0, 1, -1);
        wedged(below(4) + ";cn0;c;ct5;ct2n2", 0, 2, 0, -1, 1, 0);
        wedged(below(4) + ";cn0;ct2n2;c;ct5", 0, 2, 0, 0, -1, 1);
        wedged(below(4) + ";cn0;cn0;ct5;c", 0, 2, 0, 0, 1, -1);
        wedged(below(1) + ";cn0;cn0;c;c", 0, 1, 0, 0, 0, 1);
        wedged(below(1) + ";cn0;cn0;c;c", 1, 1, 0, 0, -1, 0);
        // 2 is 3 less 1, or 1 and 1
        wedged(below(2) + ";cn0;cn0;ct3;cn2", 0, 2, 0, 0, 0, 2);
        wedged(below(2) + ";cn0;cn0;ct3;cn2", 1, 2, 0, 0, -1, 1);
        Sentence.of(18, "WEDGES: how many (what NONE), the net number of a sort (what 0 ..).");
        wedged("g1,1,1,1", 0, 0);
        wedged("g1,1,1,1;c;c;c;c", 3, 0, 0, 0, 0, 0);
    }

    private static void wedgesRefused() {
        Sentence.of(18, "HIDDEN: it can't be, no such ones.");
        RockingTable table = Check.garden("g1,1,1,1;c");
        wedged("g2,1,1,1", 0, HIDDEN);
        wedged("g2,1,1,1;ct2n9;ct4n9", 0, HIDDEN, HIDDEN, HIDDEN);
        for (int p : extremes(0, 3)) {
            Sentence.due("wedges(" + p + ", -1)", table.wedges(p, NONE), HIDDEN);
            Sentence.due("wedges(" + p + ", 0)", table.wedges(p, 0), HIDDEN);
        }
        for (int what : extremes(NONE, 0)) {
            Sentence.due("wedges(0, " + what + ")", table.wedges(0, what), HIDDEN);
        }
        Sentence.due("four sorts: wedges(0, 4)", Check.garden("g1,1,1,1;c;c;c;c").wedges(0, 4), HIDDEN);
        Sentence.due("no GARDEN", new RockingTable().wedges(0, NONE), HIDDEN);
        Sentence.due("no cards lie beneath then", table.gap(0), 0);
    }

    private static void rock() {
        Sentence.of(19, "ROCKED: how many there are.");
        RockingTable table = Check.garden(FOUR);
        for (int i = 1; i <= 19; i++) {
            Sentence.due("rock " + i, table.rock(i % 4, i % 3 - 1), i);
        }
        Sentence.of(19, "NONE: no such TURNING, out of bounds (sign -1, 0, 1), there are 20.");
        for (int p : extremes(0, 3)) {
            Sentence.due("rock(" + p + ", 0)", table.rock(p, 0), NONE);
        }
        for (int sign : extremes(-1, 1)) {
            Sentence.due("rock(0, " + sign + ")", table.rock(0, sign), NONE);
        }
        Sentence.due("as many as ahead of them", table.count(6), 19);
        Sentence.due("no GARDEN", new RockingTable().rock(0, 0), NONE);
        Sentence.of(19, "ROCKED (20 at most)");
        Sentence.due("the twentieth", table.rock(3, 1), 20);
        Sentence.due("a 21st", table.rock(3, 1), NONE);
        Sentence.due("twenty", table.count(6), 20);
        Sentence.of(19, "at a TURNING GAP was below 0 (-1), 0, above 0 (1)");
        rocked(FOUR, 0, -1, 0, 100);
        rocked(FOUR, 0, 0, 0, 0);
        rocked(FOUR, 0, 1, 0, 0);
        rocked(FOUR, 1, 1, 1, 100);
        // the twentieth counts as the first does
        table = Check.garden(FOUR);
        for (int i = 0; i < 19; i++) {
            table.rock(0, -1);
        }
        Sentence.due("19: SHORTS of leg 1", table.shorts(1, 0), 2);
        table.rock(1, -1);
        Sentence.due("20, the last at TURNING 1: SHORTS of leg 1", table.shorts(1, 0), 0);
        table = Check.garden(FOUR);
        for (int i = 0; i < 19; i++) {
            table.rock(0, -1);
        }
        table.rock(1, 1);
        Sentence.due("20, the last above 0: SHORTS of leg 1", table.shorts(1, 0), 2);
    }

    /** How many SHORTS a leg has if it ROCKED so once. */
    private static void rocked(String text, int p, int sign, int leg, int many) {
        RockingTable table = Check.garden(text);
        table.rock(p, sign);
        Sentence.due("rock(" + p + ", " + sign + ") of " + text + ", shorts(" + leg + ", 0)", table.shorts(leg, 0), many);
    }

    private static void shorts(String text, int leg, int[] turningsAndSigns, int many, int least, int greatest) {
        RockingTable table = rockedTable(text, turningsAndSigns);
        Sentence.due("shorts(" + leg + ", 0) of " + text, table.shorts(leg, 0), many);
        Sentence.due("shorts(" + leg + ", 1) of " + text, table.shorts(leg, 1), least);
        Sentence.due("shorts(" + leg + ", 2) of " + text, table.shorts(leg, 2), greatest);
    }

    private static RockingTable rockedTable(String text, int[] turningsAndSigns) {
        RockingTable table = Check.garden(text);
        for (int i = 0; i < turningsAndSigns.length; i += 2) {
            table.rock(turningsAndSigns[i], turningsAndSigns[i + 1]);
        }
        return table;
    }

    private static int[] so(int... turningsAndSigns) {
        return turningsAndSigns;
    }

    private static void shorts() {
        Sentence.of(20, "SHORTS of a leg: how SHORT it can be (0 .. 99; all else as told) so that all ROCKED was so: "
                + "how many, the least, the greatest.");
        for (int leg = 0; leg < 4; leg++) {
            shorts(FOUR, leg, so(), 100, 0, 99);
        }
        // GAP is -2 and how SHORT leg 1 or 3 is, -2 less how SHORT leg 0 or 2 is
        shorts(FOUR, 1, so(0, -1), 2, 0, 1);
        shorts(FOUR, 1, so(0, 0), 1, 2, 2);
        shorts(FOUR, 1, so(0, 1), 97, 3, 99);
        shorts(FOUR, 3, so(0, 1), 97, 3, 99);
        shorts(FOUR, 0, so(0, -1), 100, 0, 99);
        shorts(FOUR, 0, so(0, 0), 0, NONE, NONE);
        shorts(FOUR, 0, so(1, 1), 2, 0, 1);
        shorts(FOUR, 2, so(1, 0), 1, 2, 2);
        shorts(FOUR, 2, so(1, -1), 97, 3, 99);
        shorts(FOUR, 0, so(0, -1, 1, 1), 2, 0, 1);
        shorts(FOUR, 1, so(0, 1, 1, 1, 2, 1, 3, 1), 97, 3, 99);
        // GAPS -98, -99, -100 with leg 1 whole
        shorts("g0,98,0,0", 1, so(0, 1), 1, 99, 99);
        shorts("g0,99,0,0", 1, so(0, 0), 1, 99, 99);
        shorts("g0,99,0,0", 1, so(0, 1), 0, NONE, NONE);
        shorts("g0,99,0,1", 1, so(0, 0), 0, NONE, NONE);
        shorts("g0,99,0,1", 1, so(0, -1), 100, 0, 99);
        shorts("g0,99,0,0", 1, so(0, -1), 99, 0, 98);
        shorts("g99,0,0,0", 0, so(0, 0), 1, 99, 99);
        shorts("g98,0,0,0", 0, so(0, -1), 1, 99, 99);
        shorts("g99,0,0,0", 0, so(0, -1), 0, NONE, NONE);
        shorts("g1,1,1,1", 1, so(0, 0), 1, 0, 0);
        shorts("g1,1,1,1", 0, so(0, 0), 1, 0, 0);
        shorts("g1,1,1,1", 1, so(0, -1), 0, NONE, NONE);
        shorts("g1,1,1,1", 1, so(0, 1), 99, 1, 99);
        shorts("g2,1,1,1", 0, so(0, 1), 1, 0, 0);
        shorts("g2,1,1,1", 1, so(0, 0), 0, NONE, NONE);
        // what is told of the leg itself doesn't count, what is told of the others does
        shorts(FOUR + ";tx5", 1, so(0, 0), 1, 2, 2);
        shorts(FOUR + ";tx5", 3, so(0, 0), 0, NONE, NONE);
        shorts(FOUR + ";tx5", 0, so(0, 0), 1, 3, 3);
        shorts(FOUR + ";tw9", 1, so(0, 0), 1, 11, 11);
        // what was asked ahead of it doesn't count
        RockingTable table = rockedTable(FOUR, so(0, -1));
        Sentence.due("leg 1: how many", table.shorts(1, 0), 2);
        Sentence.due("then leg 0: how many", table.shorts(0, 0), 100);
        Sentence.due("then leg 0: the greatest", table.shorts(0, 2), 99);
        Sentence.due("then POINT 1: the least", table.heights(1, 1), 2);
        Sentence.due("then leg 0: the least", table.shorts(0, 1), 0);
        Sentence.due("then POINT 1: how many", table.heights(1, 0), 98);
        Sentence.due("then POINT 0: the greatest", table.heights(0, 2), 6);
        Sentence.due("then POINT 1: the greatest", table.heights(1, 2), 99);
        Sentence.due("then POINT 0: the least", table.heights(0, 1), 0);
        Sentence.of(20, "SHORTS: how many (0), the least (1), the greatest (2; NONE both: none).");
        shorts(FOUR, 1, so(0, 1, 0, -1), 0, NONE, NONE);
        shorts(FOUR, 1, so(0, 1, 0, 0), 0, NONE, NONE);
        Sentence.of(20, "HIDDEN: no such ones.");
        for (int leg : extremes(0, 3)) {
            Sentence.due("shorts(" + leg + ", 0)", Check.garden(FOUR).shorts(leg, 0), HIDDEN);
        }
        for (int what : extremes(0, 2)) {
            Sentence.due("shorts(0, " + what + ")", Check.garden(FOUR).shorts(0, what), HIDDEN);
            Sentence.due("none: shorts(0, " + what + ")", rockedTable(FOUR, so(0, 0)).shorts(0, what), HIDDEN);
        }
        Sentence.due("no GARDEN", new RockingTable().shorts(0, 0), HIDDEN);
    }

    private static void heights(String text, int point, int[] turningsAndSigns, int many, int least, int greatest) {
        RockingTable table = rockedTable(text, turningsAndSigns);
        Sentence.due("heights(" + point + ", 0) of " + text, table.heights(point, 0), many);
        Sentence.due("heights(" + point + ", 1) of " + text, table.heights(point, 1), least);
        Sentence.due("heights(" + point + ", 2) of " + text, table.heights(point, 2), greatest);
    }

    private static void heights() {
        Sentence.of(21, "HEIGHTS of a POINT likewise.");
        heights(FOUR, 0, so(), 100, 0, 99);
        heights(FOUR, 3, so(), 100, 0, 99);
        heights(FOUR, 0, so(0, -1), 7, 0, 6);
        heights(FOUR, 0, so(0, 0), 1, 7, 7);
        heights(FOUR, 0, so(0, 1), 92, 8, 99);
        heights(FOUR, 1, so(0, 0), 1, 1, 1);
        heights(FOUR, 1, so(0, 1), 1, 0, 0);
        heights(FOUR, 1, so(0, -1), 98, 2, 99);
        heights(FOUR, 0, so(1, 0), 1, 7, 7);
        heights(FOUR, 0, so(1, 1), 7, 0, 6);
        heights(FOUR, 0, so(0, -1, 1, 1), 7, 0, 6);
        heights(FOUR, 0, so(0, -1, 1, -1), 0, NONE, NONE);
        // POINT 0 would have to be 98, 99, 100 for GAP 0
        heights("g0,98,0,0", 0, so(0, 1), 1, 99, 99);
        heights("g0,99,0,0", 0, so(0, 0), 1, 99, 99);
        heights("g0,99,0,0", 0, so(0, 1), 0, NONE, NONE);
        heights("g0,99,0,1", 0, so(0, 0), 0, NONE, NONE);
        heights("g0,99,0,1", 0, so(0, -1), 100, 0, 99);
        heights("g0,1,0,0", 1, so(0, 0), 1, 0, 0);
        heights("g0,1,0,0", 1, so(0, 1), 0, NONE, NONE);
        heights("g0,1,0,0", 1, so(0, -1), 99, 1, 99);
        // at TURNING 0 legs stand on 0, 1, 3, 4: POINTS 2 and 5 change nothing there
        heights("g9,2,3,1,3,2", 2, so(0, 1), 100, 0, 99);
        heights("g9,2,3,1,3,2", 5, so(0, 1), 100, 0, 99);
        heights("g9,2,3,1,3,2", 2, so(0, 0), 0, NONE, NONE);
        heights("g9,2,3,1,3,2", 2, so(0, 1, 1, 1), 3, 0, 2);
        heights("g9,2,3,1,3,2;tx5z5", 0, so(0, -1), 0, NONE, NONE);
        heights("g9,2,3,1,3,2;tw5y5", 0, so(0, 0), 1, 14, 14);
        Sentence.of(21, "HIDDEN: no such ones.");
        for (int point : extremes(0, 3)) {
            Sentence.due("heights(" + point + ", 0)", Check.garden(FOUR).heights(point, 0), HIDDEN);
        }
        for (int what : extremes(0, 2)) {
            Sentence.due("heights(0, " + what + ")", Check.garden(FOUR).heights(0, what), HIDDEN);
        }
        Sentence.due("no GARDEN", new RockingTable().heights(0, 0), HIDDEN);
        Sentence.of(21, "HEIGHTS likewise.");
        RockingTable table = rockedTable(FOUR, so(0, 0));
        Sentence.due("nothing is told by it", table.height(0), 5);
        table.heap(1, 6);
        Sentence.due("as HEIGHTS are now", table.heights(0, 1), 10);
    }

    private static void angles() {
        Sentence.of(22, "ANGLES (1 .. below half of the POINTS), as bits, by which all ROCKED was so.");
        Sentence.due("4 POINTS: 1", Check.garden(FOUR).angles(), 2);
        Sentence.due("6 POINTS: 1, 2", Check.garden(flat(6)).angles(), 6);
        Sentence.due("22 POINTS: 1 .. 10", Check.garden(flat(22)).angles(), 2046);
        Sentence.due("24 POINTS: 1 .. 11", Check.garden(flat(24)).angles(), 4094);
        Sentence.due("24 POINTS, none of them", rockedTable(flat(24), so(23, 1)).angles(), 0);
        Sentence.due("1, 2, 3", rockedTable(EIGHT, so(0, 1)).angles(), 14);
        Sentence.due("1, 3", rockedTable(EIGHT, so(1, -1)).angles(), 10);
        Sentence.due("2", rockedTable(EIGHT, so(1, 0)).angles(), 4);
        Sentence.due("2, whatever its own ANGLE is", rockedTable(EIGHT + ";ta3", so(1, 0)).angles(), 4);
        // with leg 1 SHORT by 2: 5, 1, 3, -1; 4, 2, 0, 2; 5, -1, 3, 1
        Sentence.due("SHORT: 1, 2", rockedTable(EIGHT + ";tx2", so(1, 1)).angles(), 6);
        Sentence.due("SHORT: 3", rockedTable(EIGHT + ";tx2", so(5, -1)).angles(), 8);
        Sentence.due("SHORT: 1", rockedTable(EIGHT + ";tx2", so(1, 1, 2, 1)).angles(), 2);
        Sentence.due("SHORT: none", rockedTable(EIGHT + ";tx2", so(1, 1, 1, -1)).angles(), 0);
        Sentence.of(22, "ANGLES, as bits.");
        Sentence.due("by two ways it ROCKED", rockedTable(EIGHT, so(1, -1, 3, -1)).angles(), 10);
        Sentence.of(22, "NONE: no GARDEN.");
        Sentence.due("angles()", new RockingTable().angles(), NONE);
    }

    private static void steady(String text, int angle, int many) {
        Sentence.due("steady(0) of " + text, Check.garden(text).steady(0), angle);
        Sentence.due("steady(1) of " + text, Check.garden(text).steady(1), many);
    }

    private static void steady() {
        Sentence.of(23, "STEADY: the ANGLE (others as told) with which there are the most STANDS (of several the least); how many.");
        steady(FOUR, 1, 4);
        // an ANGLE of half would make it STAND everywhere
        steady("g9,2,3,1,3,2", 1, 4);
        steady("g9,2,3,1,3,2;ta2", 1, 4);
        steady(EIGHT, 1, 8);
        steady(EIGHT + ";ta2", 1, 8);
        steady(flat(24) + ";ta11", 1, 24);
        // with leg 1 SHORT by 2, across 2, 1, 0, 1: 3, 3, 1, 1; 4, 2, 0, 2; 3, 1, 1, 3
        steady("g2,1,0,1,0,0,0,0;tx2", 2, 2);
        steady("g2,1,0,1,0,0,0,0;ta3x2", 2, 2);
        // with leg 0 SHORT by 1, across 3, 0, 1, 2: 2, -2, -2, -2; 1, -3, -3, 1; 0, -4, 0, 0
        steady("g3,0,1,2,0,0,0,0;tw1", 3, 6);
        steady(flat(6) + ";tx1", 1, 0);
        Sentence.of(23, "STEADY: the ANGLE (0), how many (1).");
        RockingTable table = Check.garden("g3,0,1,2,0,0,0,0;tw1");
        table.steady(0);
        Sentence.due("its ANGLE stays", table.count(1), 1);
        Sentence.due("its ANGLE stays: GAP", table.gap(1), -2);
        Sentence.of(23, "NONE: no GARDEN, no such what.");
        for (int what : extremes(0, 1)) {
            Sentence.due("steady(" + what + ")", table.steady(what), NONE);
        }
        Sentence.due("no GARDEN: steady(0)", new RockingTable().steady(0), NONE);
        Sentence.due("no GARDEN: steady(1)", new RockingTable().steady(1), NONE);
    }

    private static void likely() {
        Sentence.of(24, "LIKELY for n (0 .. 3) steps at a TURNING by a CHANCE (0 .. 100 of 100)");
        RockingTable flat = Check.garden("g1,1,1,1");
        for (int chance : new int[] {0, 50, 100}) {
            Sentence.due("no step, it STANDS", flat.likely(3, 0, chance), 1000000000);
            Sentence.due("no step, it doesn't", Check.garden(FOUR).likely(3, 0, chance), 0);
        }
        Sentence.due("three steps, never", flat.likely(0, 3, 0), 1000000000);
        Sentence.due("three steps, always", flat.likely(0, 3, 100), 1000000000);
        Sentence.due("three steps, it doesn't, never", Check.garden(FOUR).likely(0, 3, 0), 0);
        Sentence.due("three steps, it doesn't, always", Check.garden(FOUR).likely(0, 3, 100), 0);
        Sentence.due("one step, half: 6 of 16", flat.likely(0, 1, 50), 375000000);
        Sentence.of(24, "in each step the ground beneath legs 0, 1, 2, 3 one behind the other sinks by 1, or not");
        // GAP 2: 0 and 2 sink, 1 and 3 don't; GAP -2 the other way
        Sentence.due("GAP 2 by 10: 1/10 * 9/10 * 1/10 * 9/10", Check.garden("g3,1,1,1").likely(0, 1, 10), 8100000);
        Sentence.due("GAP -2 by 10", Check.garden("g1,3,1,1").likely(0, 1, 10), 8100000);
        Sentence.due("GAP 3 by one step", Check.garden("g4,1,1,1").likely(0, 1, 50), 0);
        Sentence.due("GAP 6 by three steps, a part of 4096, cut", Check.garden("g7,1,1,1").likely(0, 3, 50), split(6, 3, 50));
        Sentence.due("GAP -6 by three steps", Check.garden("g1,7,1,1").likely(0, 3, 50), split(-6, 3, 50));
        Sentence.due("GAP 7 by three steps", Check.garden("g8,1,1,1").likely(0, 3, 50), 0);
        Sentence.due("GAP -7 by three steps", Check.garden("g1,8,1,1").likely(0, 3, 50), 0);
        Sentence.of(24, "NONE: no such ones.");
        for (int p : extremes(0, 3)) {
            Sentence.due("likely(" + p + ", 1, 50)", flat.likely(p, 1, 50), NONE);
        }
        for (int n : extremes(0, 3)) {
            Sentence.due("likely(0, " + n + ", 50)", flat.likely(0, n, 50), NONE);
        }
        for (int chance : extremes(0, 100)) {
            Sentence.due("likely(0, 1, " + chance + ")", flat.likely(0, 1, chance), NONE);
            Sentence.due("likely(0, 0, " + chance + ")", flat.likely(0, 0, chance), NONE);
        }
        Sentence.due("no GARDEN", new RockingTable().likely(0, 0, 0), NONE);
        Sentence.of(24, "LIKELY.");
        Sentence.due("the ground is as it was", flat.height(0), 1);
    }

    private static void likelyParts() {
        Sentence.of(24, "of 10 to the 9 parts CHANCE by 100 of each part, cut, does, the rest not");
        // by 1: 10000000, 9900000, 99000, 98010, 980, 971, 9, 9
        Sentence.due("GAP 4, two steps by 1", Check.garden("g5,1,1,1").likely(0, 2, 1), 9);
        // by 1: 990000000, 9900000, 9801000, 98010, 97030, 970, 961, 9
        Sentence.due("GAP -4, two steps by 1", Check.garden("g1,5,1,1").likely(0, 2, 1), 9);
        // by 7: 70000000, 65100000, 4557000, 4238010, 296660, 275894, 19312, 17961
        Sentence.due("GAP 4, two steps by 7", Check.garden("g5,1,1,1").likely(0, 2, 7), 17961);
        for (int chance : new int[] {1, 33, 67, 99}) {
            Sentence.due("GAP 1, three steps by " + chance, Check.garden("g2,1,1,1").likely(0, 3, chance), split(1, 3, chance));
            Sentence.due("GAP -1, three steps by " + chance, Check.garden("g1,2,1,1").likely(0, 3, chance), split(-1, 3, chance));
        }
        Sentence.of(24, "(parts alike are not put together; ground may be below 0 then)");
        Sentence.due("else there would be others", split(0, 3, 33) != together(0, 3, 33), true);
        Sentence.due("GAP 0, three steps by 33", Check.garden("g1,1,1,1").likely(0, 3, 33), split(0, 3, 33));
        // one of legs 0 and 2 alone, or both and one of the others: 4 of 16
        Sentence.due("from HEIGHTS of 0", Check.garden("g1,0,0,0").likely(0, 1, 50), 250000000);
        Sentence.due("from HEIGHTS of 0, at another TURNING", Check.garden("g1,0,0,0").likely(3, 1, 50), 250000000);
        Sentence.of(24, "how many parts there are in which it STANDS then");
        Sentence.due("at most all", Check.garden("g0,0,0,0").likely(0, 3, 100), 1000000000);
    }

    /** Parts one by one, as the document splits them. */
    private static long split(int gap, int steps, int chance) {
        List<long[]> parts = new ArrayList<>();
        parts.add(new long[] {1000000000L, gap});
        for (int i = 0; i < 4 * steps; i++) {
            List<long[]> next = new ArrayList<>();
            for (long[] part : parts) {
                long sinks = part[0] * chance / 100;
                next.add(new long[] {sinks, i % 2 == 0 ? part[1] - 1 : part[1] + 1});
                next.add(new long[] {part[0] - sinks, part[1]});
            }
            parts = next;
        }
        long standing = 0;
        for (long[] part : parts) {
            standing += part[1] == 0 ? part[0] : 0;
        }
        return standing;
    }

    /** What would come out if parts alike were put together. */
    private static long together(int gap, int steps, int chance) {
        TreeMap<Integer, Long> parts = new TreeMap<>();
        parts.put(gap, 1000000000L);
        for (int i = 0; i < 4 * steps; i++) {
            TreeMap<Integer, Long> next = new TreeMap<>();
            int by = i % 2 == 0 ? -1 : 1;
            parts.forEach((at, many) -> {
                long sinks = many * chance / 100;
                next.merge(at + by, sinks, Long::sum);
                next.merge(at, many - sinks, Long::sum);
            });
            parts = next;
        }
        return parts.getOrDefault(0, 0L);
    }
}
