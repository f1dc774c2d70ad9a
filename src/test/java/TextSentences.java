/** Promises 1 to 8: the TAPE, the GARDEN as a TEXT and its FAULTS, what it tells. */
final class TextSentences {
    private static final int NONE = RockingTable.NONE;
    private static final int HIDDEN = RockingTable.HIDDEN;
    private static final String FOUR = "g1,2,3,4";

    private TextSentences() {
    }

    static void ask() {
        newObject();
        feed();
        end();
        fault();
        ground();
        tableAndCards();
        blanks();
        faults();
        text();
        newGarden();
        told();
    }

    /** A GROUND of so many POINTS, all alike. */
    private static String flat(int points) {
        return "g" + "1,".repeat(points - 1) + "1";
    }

    private static int[] extremes(int least, int most) {
        return new int[] {least - 1, most + 1, Integer.MIN_VALUE, Integer.MAX_VALUE};
    }

    private static void newObject() {
        Sentence.of(1, "No GARDEN.");
        RockingTable table = new RockingTable();
        for (int what = 0; what < 8; what++) {
            Sentence.due("count(" + what + ")", table.count(what), what == 5 ? NONE : 0);
        }
        Sentence.due("less", table.less(), NONE);
        Sentence.due("the TAPE is empty: feed", table.feed(0x67000000, 0, 0, 0, 0), 1);
    }

    private static void feed() {
        Sentence.of(2, "Twenty bytes more come to the TAPE");
        RockingTable table = new RockingTable();
        Sentence.due("g1,2,3,4;tw9x9y9z9;c", table.feed(0x67312C32, 0x2C332C34, 0x3B747739, 0x78397939, 0x7A393B63), 20);
        Sentence.due("in this order: text(0)", table.text(0), 4);
        Sentence.due("the last ones count too: sorts", table.count(2), 1);
        Sentence.due("bytes of 255", table.feed(-1, -1, -1, -1, -1), 20);
        Sentence.of(2, "of each number the highest first");
        table = new RockingTable();
        table.feed(0x312C3267, 0, 0, 0, 0);
        Sentence.due("1,2g: fault", table.fault(0), 0);
        table.end(0);
        table.feed(0x67322C31, 0, 0, 0, 0);
        Sentence.due("g2,1: fault", table.fault(0), 4);
        Sentence.of(2, "bytes of 0 are left out");
        table = new RockingTable();
        Sentence.due("all of them 0", table.feed(0, 0, 0, 0, 0), 0);
        Sentence.due("at each place", table.feed(0x67000000, 0x00310000, 0x00002C00, 0x00000032, 0x2C00332C), 7);
        Sentence.due("and between", table.feed(0, 0, 0x00340000, 0, 0), 8);
        Sentence.due("g1,2,3,4", table.text(0), 4);
    }

    private static void end() {
        RockingTable table = new RockingTable();
        Sentence.of(2, "NONE: more than 160.");
        for (int i = 1; i <= 8; i++) {
            Sentence.due("feed " + i, table.feed(0x20202020, 0x20202020, 0x20202020, 0x20202020, 0x20202020), 20 * i);
        }
        for (int place = 0; place < 5; place++) {
            int[] one = new int[5];
            one[place] = 0x00200000;
            Sentence.due("a byte more at " + place, table.feed(one[0], one[1], one[2], one[3], one[4]), NONE);
        }
        for (int place = 0; place < 20; place++) {
            for (int one : new int[] {1, 127, 128, 255}) {
                int[] words = new int[5];
                words[place / 4] = one << 24 - place % 4 * 8;
                Sentence.due("byte " + one + " at place " + place, table.feed(words[0], words[1], words[2], words[3], words[4]), NONE);
            }
        }
        Sentence.due("it has as many as ahead of it", table.count(4), 160);
        Sentence.due("no byte more is not too many", table.feed(0, 0, 0, 0, 0), 160);
        table.end(141);
        Sentence.due("twenty, nineteen fit", table.feed(0x67676767, 0x67676767, 0x67676767, 0x67676767, 0x67676767), NONE);
        Sentence.due("none of them came", table.count(4), 141);
        Sentence.due("none of them came: fault", table.fault(0), 141);
        Sentence.due("nineteen", table.feed(0x67676767, 0x67676767, 0x67676767, 0x67676767, 0x00676767), 160);
        Sentence.due("they came behind 141", table.fault(0), 142);
        Sentence.of(2, "how many it has.");
        Sentence.due("count(4)", table.count(4), 160);

        Sentence.of(3, "The TAPE has its first n bytes alone.");
        table = new RockingTable();
        Check.tape(table, FOUR + ";t");
        Sentence.due("end(10), all", table.end(10), true);
        Sentence.due("all: count(4)", table.count(4), 10);
        Sentence.due("end(9)", table.end(9), true);
        Sentence.due("fault", table.fault(0), 9);
        Sentence.due("end(8)", table.end(8), true);
        Sentence.due("fault", table.fault(0), NONE);
        Sentence.due("end(3)", table.end(3), true);
        Sentence.due("feed goes on behind them", table.feed(0x392C332C, 0x34000000, 0, 0, 0), 8);
        Sentence.due("text(0)", table.text(0), 4);
        Sentence.due("the first three stay", table.height(1), 9);
        Sentence.due("end(0) of an empty one", table.end(0), true);
        Sentence.of(3, "False: n.");
        Check.tape(table, FOUR);
        table.end(7);
        Sentence.due("what is gone can't come back", table.end(8), false);
        for (int n : extremes(0, 7)) {
            Sentence.due("end(" + n + ")", table.end(n), false);
        }
        Sentence.due("seven still", table.count(4), 7);
    }

    private static void fault() {
        Sentence.of(4, "The FAULT of the TAPE as a GARDEN (0), a WISH (1).");
        Sentence.garden("y:1", 0);
        Sentence.wish("y:1", NONE);
        Sentence.wish(FOUR, 0);
        RockingTable table = new RockingTable();
        Sentence.due("an empty TAPE", table.fault(0), 0);
        Sentence.due("an empty TAPE", table.fault(1), 0);
        Sentence.of(4, "NONE: none.");
        Sentence.garden(FOUR, NONE);
        Sentence.garden(flat(24) + ";ta11w99x99y99z99;ct20n9;ct20n9;ct20n9;ct20n9", NONE);
        Check.tape(table, FOUR);
        Sentence.due("the TAPE stays: fault", table.fault(0), NONE);
        Sentence.due("the TAPE stays: fault again", table.fault(0), NONE);
        Sentence.due("the TAPE stays: count(4)", table.count(4), 8);
        Sentence.due("no GARDEN by it", table.count(0), 0);
        Sentence.of(4, "the first byte at which no such TEXT can go on");
        RockingTable again = new RockingTable();
        Check.tape(again, "c;t;c;c;c;" + FOUR + ";c");
        for (int i = 0; i < 3; i++) {
            Sentence.due("the same TAPE again and again", again.fault(0), 19);
        }
        Check.tape(again, "t;c;" + FOUR + ";t");
        Sentence.due("another TAPE: the second t", again.fault(0), 13);
        Check.tape(again, FOUR + ";t;c;c;c;c");
        Sentence.due("another TAPE: none", again.fault(0), NONE);
        Sentence.of(4, "-2: no such sort.");
        for (int sort : extremes(0, 1)) {
            Sentence.due("fault(" + sort + ")", table.fault(sort), -2);
            Sentence.due("fault(" + sort + ") of an empty TAPE", new RockingTable().fault(sort), -2);
        }
    }

    private static void ground() {
        Sentence.of(4, "g (the GROUND; once)");
        Sentence.garden("", 0);
        Sentence.garden("t", 1);
        Sentence.garden(FOUR + ";" + FOUR, 9);
        Sentence.of(4, "right behind it HEIGHTS (0 .. 99) with , between");
        Sentence.garden("g0,99,00,9", NONE);
        Sentence.garden("g1,2,3,100", 9);
        Sentence.garden("g100,2,3,4", 3);
        Sentence.garden("g-1,2,3,4", 1);
        Sentence.garden("gt", 1);
        Sentence.garden("g1,2,,3,4", 5);
        Sentence.garden("g1,2;3,4", 4);
        Sentence.garden("g1,2,3,4,", 9);
        Sentence.of(4, "an even number of them, 4 to 24");
        for (int points = 1; points <= 26; points++) {
            boolean right = points % 2 == 0 && points >= 4 && points <= 24;
            int length = 2 * points;
            Sentence.garden(flat(points), right ? NONE : points > 24 ? 48 : length);
        }
        Sentence.of(5, "4 to 24: as many POINTS, round");
        for (int points = 4; points <= 24; points += 2) {
            Sentence.due(points + " HEIGHTS", Check.garden(flat(points)).count(0), points);
        }
        Sentence.due("behind the last one the first", Check.garden("g0,0,0,0,0,0,0,9").gap(3), 9);
        Sentence.due("behind the last one the first", Check.garden("g9,0,0,0,0,0,0,0").gap(7), -9);
        Sentence.of(4, "t (the TABLE; one at most)");
        Sentence.garden("t;" + FOUR, NONE);
        Sentence.garden("t;" + FOUR + ";t", 11);
        Sentence.of(4, "c (CARDS of a sort; none to 4)");
        Sentence.garden(FOUR + ";c;c;c;c", NONE);
        Sentence.garden(FOUR + ";c;c;c;c;c", 17);
        Sentence.of(4, "in any order");
        Sentence.garden("c;t;" + FOUR, NONE);
        Sentence.garden("c;" + FOUR + ";c;t;c", NONE);
        Sentence.garden("tz1y2x3w4a1;cn2t3;" + FOUR, NONE);
    }

    private static void tableAndCards() {
        Sentence.of(4, "ITEMS, none or more: a letter, each once at most in a CLAUSE, and a number (one or two digits)");
        Sentence.garden("t;c;" + FOUR, NONE);
        Sentence.garden("ct1;ct1n1;cn1;" + FOUR, NONE);
        Sentence.garden("tw1w2;" + FOUR, 3);
        Sentence.garden("tw;" + FOUR, 2);
        Sentence.garden("tw01x2;" + FOUR, NONE);
        Sentence.garden("tw001;" + FOUR, 4);
        Sentence.garden("tt1;" + FOUR, 1);
        Sentence.garden("tn1;" + FOUR, 1);
        Sentence.garden("cw1;" + FOUR, 1);
        Sentence.garden("ca1;" + FOUR, 1);
        Sentence.of(4, "a ANGLE (1 .. 11; 1 without)");
        Sentence.garden("ta0;" + flat(24), 2);
        Sentence.garden("ta1;" + flat(24), NONE);
        Sentence.garden("ta11;" + flat(24), NONE);
        Sentence.garden("ta12;" + flat(24), 3);
        Sentence.garden("ta99;" + flat(24), 3);
        Sentence.due("without: t", Check.garden("t;" + FOUR).count(1), 1);
        Sentence.due("without t", Check.garden(FOUR).count(1), 1);
        Sentence.due("11", Check.garden("ta11;" + flat(24)).count(1), 11);
        Sentence.of(4, "w, x, y, z how SHORT legs 0, 1, 2, 3 are (0 .. 99; 0)");
        for (String letter : new String[] {"w", "x", "y", "z"}) {
            Sentence.garden("t" + letter + "0;" + FOUR, NONE);
            Sentence.garden("t" + letter + "99;" + FOUR, NONE);
            Sentence.garden("t" + letter + "100;" + FOUR, 4);
        }
        RockingTable table = Check.garden("tz4w1x2y3;" + FOUR);
        for (int leg = 0; leg < 4; leg++) {
            Sentence.due("leg " + leg, table.shorter(leg), leg + 1);
            Sentence.due("without: leg " + leg, Check.garden("ta1;" + FOUR).shorter(leg), 0);
        }
        Sentence.of(4, "of c: t THICK (1 .. 20; 1)");
        Sentence.garden("ct0;" + FOUR, 2);
        Sentence.garden("ct00;" + FOUR, 3);
        Sentence.garden("ct1;" + FOUR, NONE);
        Sentence.garden("ct20;" + FOUR, NONE);
        Sentence.garden("ct21;" + FOUR, 3);
        Sentence.due("without", Check.garden("cn5;" + FOUR).card(0, 0), 1);
        Sentence.of(4, "n how MANY (0 .. 9; 1)");
        Sentence.garden("cn0;" + FOUR, NONE);
        Sentence.garden("cn9;" + FOUR, NONE);
        Sentence.garden("cn09;" + FOUR, NONE);
        Sentence.garden("cn10;" + FOUR, 3);
        Sentence.due("without", Check.garden("ct5;" + FOUR).card(0, 1), 1);
    }

    private static void blanks() {
        Sentence.of(4, "Blanks (32) may stand between all signs of both, not within numbers.");
        Sentence.garden("  g  1 , 22 ,3,  4 ;  t  a 1  w 99 ;  c  t 20 n 9  ", NONE);
        Sentence.garden("g1 1,2,3,4", 3);
        Sentence.garden("g1,2,3,4 4", 9);
        Sentence.garden("tw1 1;" + FOUR, 4);
        Sentence.garden("g1,2,3,4" + (char) 9, 8);
        Sentence.garden("g1,2,3,4" + (char) 160, 8);
        Sentence.garden((char) 10 + FOUR, 0);
        Sentence.wish("  y  :  1  +  [ g * 22 ]  =  3  &  ! ( p < 2 | n > 1 )  ?  t / 4 ; y : 1 ", NONE);
        Sentence.wish("y:1 1", 4);
        Sentence.wish("y:1111 1", 7);
        Sentence.wish("y:1" + (char) 9, 3);
    }

    private static void faults() {
        Sentence.of(4, "the first byte at which no such TEXT can go on");
        Sentence.garden("x", 0);
        Sentence.garden("  G1", 2);
        Sentence.garden("g1,2,3,4;x;y", 9);
        Sentence.garden("g1,2,3,4w1", 8);
        Sentence.garden("g1,2,3,4;;", 9);
        Sentence.garden(";" + FOUR, 0);
        Sentence.of(4, "the length, if it ends too early, without a GROUND, or with an ANGLE that is not below half of the POINTS");
        Sentence.garden("g", 1);
        Sentence.garden("g1", 2);
        Sentence.garden("g1,2,3,", 7);
        Sentence.garden("g1,2,3 ", 7);
        Sentence.garden(FOUR + ";", 9);
        Sentence.garden(FOUR + " ; ", 11);
        Sentence.garden("ta", 2);
        Sentence.garden("ta ", 3);
        Sentence.garden("c;t", 3);
        Sentence.garden("c;t;", 4);
        Sentence.garden("c;t  ", 5);
        Sentence.garden("ta2;" + FOUR, 12);
        Sentence.garden(FOUR + ";ta2 ", 13);
        Sentence.garden(flat(6) + ";ta2", NONE);
        Sentence.garden(flat(6) + ";ta3", 16);
        Sentence.garden("ta11;" + flat(24), NONE);
        Sentence.garden("ta11;" + flat(22), 49);
        Sentence.garden("ta10;" + flat(22), NONE);
        Sentence.garden("ta2;" + FOUR + ";x", 13);
        Sentence.wish("", 0);
        Sentence.wish("y", 1);
        Sentence.wish("y:", 2);
        Sentence.wish("y:1;", 4);
        Sentence.wish("y:1=1 ", 6);
        Sentence.wish("y:[1", 4);
        Sentence.of(4, "a number out of bounds is wrong at its last digit");
        Sentence.garden("ta0", 2);
        Sentence.garden("ta00w1", 3);
        Sentence.garden("ta12;", 3);
        Sentence.garden("t a 12 ;", 5);
        Sentence.garden("ct0n1", 2);
        Sentence.garden("ct99", 3);
        Sentence.garden("cn10t1", 3);
        Sentence.of(4, "a third digit (whatever stands ahead of it; a fifth one in a WISH) itself");
        Sentence.garden("g123", 3);
        Sentence.garden("g1,2,3,0004", 9);
        Sentence.garden("ta123", 4);
        Sentence.garden("ta001", 4);
        Sentence.garden("ct210", 4);
        Sentence.garden("cn100", 4);
        Sentence.garden("tz999", 4);
        Sentence.wish("y:12345", 6);
        Sentence.wish("y:00000", 6);
        Sentence.wish("y:g=12345", 8);
        Sentence.wish("y:[999999", 7);
        Sentence.of(4, "a letter that was there");
        Sentence.garden("ta1w1x1y1z1z1", 11);
        Sentence.garden("ta1a1", 3);
        Sentence.garden("ct1n1t1", 5);
        Sentence.garden("cn1 n", 4);
        Sentence.of(4, "a second g or t");
        Sentence.garden(FOUR + "; g", 10);
        Sentence.garden("t;t", 2);
        Sentence.garden("t;c;" + FOUR + ";t", 13);
        Sentence.of(4, "a fifth c");
        Sentence.garden("c;c;c;c;c", 8);
        Sentence.garden("c;c;" + FOUR + ";c;c; c", 18);
        Sentence.of(4, "the , ahead of a 25th HEIGHT");
        Sentence.garden(flat(24) + ",", 48);
        Sentence.garden(flat(24) + ",x", 48);
        Sentence.garden(flat(24) + " ,1", 49);
        Sentence.of(4, "what stands behind the last HEIGHT if they are too few, or not even");
        Sentence.garden("g1;t", 2);
        Sentence.garden("g1,2;t", 4);
        Sentence.garden("g1,2,3;t", 6);
        Sentence.garden("g1,2,3 x", 7);
        Sentence.garden("g1,2,3,4,5;t", 10);
        Sentence.garden(flat(23) + ";t", 46);
    }

    private static void text() {
        Sentence.of(5, "The TAPE (empty then) is the GARDEN");
        RockingTable table = new RockingTable();
        Check.tape(table, flat(24));
        Sentence.due("24 POINTS", table.text(0), 24);
        Sentence.due("an empty TAPE", table.count(4), 0);
        Check.tape(table, FOUR);
        Sentence.due("4 POINTS", table.text(0), 4);
        Sentence.due("an empty TAPE again", table.count(4), 0);
        Sentence.due("nothing is left to be one", table.text(0), NONE);
        Sentence.due("the GARDEN stays", table.count(0), 4);
        Sentence.of(5, "a WISH: its number.");
        for (int i = 0; i < 4; i++) {
            Check.tape(table, "y:" + (i + 5));
            Sentence.due("WISH " + i, table.text(1), i);
            Sentence.due("the TAPE is empty then", table.count(4), 0);
        }
        Sentence.of(5, "NONE: a FAULT, no such sort, there are four.");
        Check.tape(table, "y:9");
        Sentence.due("a fifth WISH", table.text(1), NONE);
        Sentence.due("a fifth WISH: the TAPE stays", table.count(4), 3);
        Sentence.due("a fifth WISH: four", table.count(3), 4);
        table.wish(3);
        Sentence.due("a fifth WISH: the fourth is as it was", table.best(1), 8);
        Sentence.due("a WISH is no GARDEN", table.text(0), NONE);
        for (int sort : extremes(0, 1)) {
            Sentence.due("text(" + sort + ")", table.text(sort), NONE);
        }
        Sentence.due("the TAPE stays", table.count(4), 3);
        Sentence.due("the GARDEN stays", table.height(3), 4);
        RockingTable other = new RockingTable();
        Check.tape(other, FOUR + ";ta2");
        Sentence.due("an ANGLE of half", other.text(0), NONE);
        Sentence.due("no GARDEN by it", other.count(0), 0);
        Sentence.due("no ANGLE by it", other.count(1), 0);
        Check.tape(other, "y:1=1");
        Sentence.due("a FAULT of a WISH", other.text(1), NONE);
        Sentence.due("no WISH by it", other.count(3), 0);
        Check.tape(other, "y:1");
        Sentence.due("a WISH without a GARDEN", other.text(1), 0);
        Sentence.of(5, "WISHES (4 at most)");
        Sentence.due("four", table.count(3), 4);
    }

    private static void newGarden() {
        Sentence.of(5, "all that was of another one is gone but WISHES, none holds");
        RockingTable table = Check.garden(flat(8) + ";ta3w1x2y3z4;ct5n6;c");
        Check.tape(table, "y:77");
        table.text(1);
        table.wish(0);
        table.rock(0, 1);
        table.saw(0, 5);
        table.heap(7, 9);
        table.image();
        Sentence.due("a WISH holds", table.best(1), 77);
        Check.tape(table, FOUR);
        Sentence.due("how many POINTS", table.text(0), 4);
        int[] counts = {4, 1, 0, 1, 0, NONE, 0, 0};
        for (int what = 0; what < 8; what++) {
            Sentence.due("count(" + what + ")", table.count(what), counts[what]);
        }
        Sentence.due("how SHORT legs were", table.less(), 0);
        Sentence.due("CARDS", table.card(0, 0), NONE);
        Sentence.due("ACTS", table.undo(), NONE);
        Sentence.due("the IMAGE", table.back(), NONE);
        Sentence.due("ROCKED", table.shorts(0, 0), 100);
        Sentence.noHeight("POINTS", table, 4);
        Sentence.due("none holds", table.best(1), 2);
        Sentence.due("the WISH can hold again", table.wish(0), true);
        Sentence.due("it is as it was", table.best(1), 77);
        Check.tape(table, "y:1");
        table.text(1);
        Sentence.due("by a WISH that comes nothing is gone", table.count(5), 0);
        Sentence.due("by a WISH that comes nothing is gone", table.best(1), 77);
        oneBehindTheOther();
        table = Check.garden(FOUR + ";ct20n9;ct20n9;ct20n9;ct20n9");
        Sentence.due("cards beneath: none is enough", table.wedges(0, -1), HIDDEN);
        Check.tape(table, FOUR + ";cn2");
        table.text(0);
        Sentence.due("CARDS of the other one are gone: 1+3-2-4", table.wedges(0, -1), 2);
        Sentence.due("as many rows as with these alone", table.piles(0), 1);
    }

    /** Whatever there is of the latest ones mustn't come up again. */
    private static void oneBehindTheOther() {
        RockingTable table = new RockingTable();
        for (int i = 0; i < 6; i++) {
            Check.tape(table, flat(24) + ";ta11w1x2y3z4;c;ct2n9;ct3n9;ct4n9");
            Sentence.due("24 POINTS", table.text(0), 24);
            table.plane(i);
            table.wedges(i, 0);
            for (int k = i; k < 6; k++) {
                Check.tape(table, k % 2 == 0 ? FOUR + ";t;cn0" : FOUR);
                Sentence.due("4 POINTS", table.text(0), 4);
                Sentence.due("ANGLE", table.count(1), 1);
                Sentence.due("sorts", table.count(2), k % 2 == 0 ? 1 : 0);
                Sentence.due("LESS", table.less(), 0);
                Sentence.due("WEDGES", table.wedges(0, NONE), HIDDEN);
                Sentence.due("PILES", table.piles(0), 0);
                Sentence.due("PLANE", table.plane(0), 1);
                Sentence.due("STANDS", table.stands(NONE, 0), 4);
            }
        }
    }

    private static void told() {
        Sentence.of(6, "HEIGHT of a POINT.");
        RockingTable table = Check.garden("g0,99,5,07,1,2");
        int[] heights = {0, 99, 5, 7, 1, 2};
        for (int point = 0; point < 6; point++) {
            Sentence.due("height(" + point + ")", table.height(point), heights[point]);
        }
        Sentence.due("height(23) of 24", Check.garden(flat(24)).height(23), 1);
        Sentence.of(6, "NoSuchElementException: no such one.");
        for (int point : extremes(0, 5)) {
            Sentence.noHeight("height(" + point + ")", table, point);
        }
        Sentence.noHeight("24 of 24", Check.garden(flat(24)), 24);
        Sentence.noHeight("no GARDEN", new RockingTable(), 0);

        Sentence.of(7, "How SHORT a leg is.");
        table = Check.garden(FOUR + ";tw99x1z50");
        int[] shorts = {99, 1, 0, 50};
        for (int leg = 0; leg < 4; leg++) {
            Sentence.due("shorter(" + leg + ")", table.shorter(leg), shorts[leg]);
        }
        Sentence.of(7, "NONE: no such one, no GARDEN.");
        for (int leg : extremes(0, 3)) {
            Sentence.due("shorter(" + leg + ")", table.shorter(leg), NONE);
        }
        for (int leg = 0; leg < 4; leg++) {
            Sentence.due("no GARDEN: " + leg, new RockingTable().shorter(leg), NONE);
        }

        Sentence.of(8, "Of a sort of CARDS: THICK (0), how MANY (1).");
        table = Check.garden("ct20n0;" + FOUR + ";cn9;c;ct2n3");
        int[][] cards = {{20, 0}, {1, 9}, {1, 1}, {2, 3}};
        for (int sort = 0; sort < 4; sort++) {
            Sentence.due("card(" + sort + ", 0)", table.card(sort, 0), cards[sort][0]);
            Sentence.due("card(" + sort + ", 1)", table.card(sort, 1), cards[sort][1]);
        }
        Sentence.of(8, "NONE: no such ones.");
        for (int one : extremes(0, 3)) {
            Sentence.due("card(" + one + ", 0)", table.card(one, 0), NONE);
        }
        for (int what : extremes(0, 1)) {
            Sentence.due("card(0, " + what + ")", table.card(0, what), NONE);
        }
        Sentence.due("one sort: card(1, 0)", Check.garden(FOUR + ";c").card(1, 0), NONE);
        Sentence.due("one sort: card(1, 1)", Check.garden(FOUR + ";c").card(1, 1), NONE);
        Sentence.due("no sort", Check.garden(FOUR).card(0, 0), NONE);
        Sentence.due("no GARDEN", new RockingTable().card(0, 0), NONE);
    }
}
