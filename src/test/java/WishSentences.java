/** WISHES as TEXTS, which one holds, the BEST TURNING by it: promises 4, 5, 9 and 15. */
final class WishSentences {
    private static final int NONE = RockingTable.NONE;
    private static final int HIDDEN = RockingTable.HIDDEN;
    /** GAPS 5, 0, -5, 5, 0, -5; TILTS 8, 1, 8, 8, 1, 8; all REACH 15, 10, 15, 15, 10, 15 together. */
    private static final String SIX = "g9,2,3,1,3,2";

    private WishSentences() {
    }

    static void ask() {
        forms();
        conditions();
        depths();
        bounds();
        worths();
        letters();
        holds();
        best();
    }

    /** The WORTH of a WISH without letters. */
    private static void worth(String wish, int want) {
        RockingTable table = Check.garden("g1,1,1,1");
        Check.tape(table, wish);
        Sentence.due("text(1) of " + wish, table.text(1), 0);
        table.wish(0);
        Sentence.due("best(1) by " + wish, table.best(1), want);
    }

    /** Whether a CONDITION without letters holds. */
    private static void holds(String condition, boolean want) {
        worth("y:" + condition + "?5;y:7", want ? 5 : 7);
    }

    private static void forms() {
        Sentence.of(4, "CLAUSES with ; between, one at least: y, : , perhaps CONDITION ?, then SUM.");
        Sentence.wish("", 0);
        Sentence.wish(" ", 1);
        Sentence.wish(";", 0);
        Sentence.wish("y:1", NONE);
        Sentence.wish("y:1;y:2;y:3=3?4", NONE);
        Sentence.wish("y:1;y:2;", 8);
        Sentence.wish("y:1,", 3);
        Sentence.wish("x:1", 0);
        Sentence.wish("y1", 1);
        Sentence.wish("yy", 1);
        Sentence.wish("y:?1", 2);
        Sentence.wish("y:1?1", 3);
        Sentence.wish("y:1=1?", 6);
        Sentence.wish("y:1=1?1?1", 7);
        Sentence.wish("y:1=1?1=1", 7);
        Sentence.wish("y:1=1;", 5);
        Sentence.of(4, "SUM: TERMS with + or - between");
        Sentence.wish("y:1+2-3", NONE);
        Sentence.wish("y:+1", 2);
        Sentence.wish("y:-1", 2);
        Sentence.wish("y:1+", 4);
        Sentence.wish("y:1+-1", 4);
        Sentence.of(4, "TERM: ATOMS with * or / between");
        Sentence.wish("y:1*2/3", NONE);
        Sentence.wish("y:*1", 2);
        Sentence.wish("y:1*", 4);
        Sentence.wish("y:1*/1", 4);
        worth("y:2+3*4", 14);
        worth("y:2*3+4", 10);
        worth("y:20-3-4", 13);
        worth("y:100/5/2", 10);
        worth("y:7/2*2", 6);
        worth("y:20-12/4*3+1", 12);
        Sentence.of(4, "ATOM: a number (1 to 4 digits), a letter (g p t s n), [ SUM ].");
        Sentence.wish("y:9", NONE);
        Sentence.wish("y:9999", NONE);
        Sentence.wish("y:0000", NONE);
        Sentence.wish("y:99999", 6);
        Sentence.wish("y:g+p+t+s+n", NONE);
        Sentence.wish("y:a", 2);
        Sentence.wish("y:y", 2);
        Sentence.wish("y:1g", 3);
        Sentence.wish("y:g1", 3);
        Sentence.wish("y:gp", 3);
        Sentence.wish("y:[]", 3);
        Sentence.wish("y:[1)", 4);
        Sentence.wish("y:[1=1]", 4);
        Sentence.wish("y:1]", 3);
        worth("y:[2+3]*4", 20);
        worth("y:20-[3-[4-1]]", 20);
        worth("y:0042", 42);
    }

    private static void conditions() {
        Sentence.of(4, "CONDITION: TRUTHS with | between");
        Sentence.wish("y:1=1|?1", 6);
        Sentence.wish("y:1=1|2=2|3=3?1", NONE);
        holds("1=2|1=2", false);
        holds("1=1|1=2", true);
        holds("1=2|1=1", true);
        holds("1=2|1=2|1=1", true);
        Sentence.of(4, "TRUTH: UNITS with & between");
        Sentence.wish("y:1=1&?1", 6);
        Sentence.wish("y:1=1&1?1", 7);
        holds("1=1&1=1", true);
        holds("1=1&1=2", false);
        holds("1=2&1=1", false);
        holds("1=1&1=1&1=2", false);
        holds("1=1|1=1&1=2", true);
        holds("1=2&1=1|1=1", true);
        holds("1=2&1=1|1=2", false);
        Sentence.of(4, "UNIT: ! UNIT, ( CONDITION ), or SUM, one of = < >, SUM.");
        Sentence.wish("y:!1", 4);
        Sentence.wish("y:1=1=1?1", 5);
        Sentence.wish("y:1=?1", 4);
        Sentence.wish("y:1<=1?1", 4);
        Sentence.wish("y:()?1", 3);
        Sentence.wish("y:(1=1]?1", 6);
        Sentence.wish("y:1=(1)?1", 4);
        Sentence.wish("y:1=!1=1?1", 4);
        holds("1=1", true);
        holds("1=2", false);
        holds("1<2", true);
        holds("1<1", false);
        holds("2<1", false);
        holds("2>1", true);
        holds("1>1", false);
        holds("1>2", false);
        holds("0-1<0", true);
        holds("1+1=4/2", true);
        holds("!1=2", true);
        holds("!1=1", false);
        holds("!!1=1", true);
        holds("!1=2&1=2", false);
        holds("!1=1|1=1", true);
        holds("(1=1|1=1)&1=2", false);
        holds("!(1=2&1=1)", true);
        holds("1=1&(1=2|1=1)", true);
        holds("[1]=1", true);
        for (String one : new String[] {"1=1", "1<2", "2>1", "!1=2", "(1=1)"}) {
            for (String other : new String[] {"1=1", "1<2", "2>1", "!1=2", "(1=1)"}) {
                holds(one + "&" + other, true);
                holds("1=2|" + one + "&" + other, true);
                holds(one + "&!" + other, false);
                holds("!" + one + "|!" + other, false);
            }
        }
        Sentence.of(4, "(A CLAUSE that goes on with ! or ( behind its : has a CONDITION.)");
        Sentence.wish("y:(1)", 4);
        Sentence.wish("y:(1+1)*2", 6);
        Sentence.wish("y:(1=1)", 7);
        Sentence.wish("y:(1=1)=1?1", 7);
        Sentence.wish("y:(1=1)?1", NONE);
        Sentence.wish("y:!1=1", 6);
        Sentence.wish("y:!1=1?1", NONE);
        Sentence.wish("y:1=1?!1=1?1", 6);
        Sentence.wish("y:1=1?(1)", 6);
    }

    private static void depths() {
        Sentence.of(4, "At most six of ( [ ! within one another.");
        Sentence.wish("y:[[[[[[1]]]]]]", NONE);
        Sentence.wish("y:((((((1=1))))))?1", NONE);
        Sentence.wish("y:!!!!!!1=1?1", NONE);
        Sentence.wish("y:!(!(![1]=1))?1", NONE);
        Sentence.wish("y:!!!!!!1=1&!!!!!!1=1|((((((1=1))))))?[[[[[[1]]]]]]+[[[[[[1]]]]]]", NONE);
        Sentence.wish("y:!!!!!!1=1?[[[[[[1]]]]]];y:((((((1=1))))))?1", NONE);
        worth("y:[[[[[[1+1]+1]+1]+1]+1]+1]+1", 8);
        holds("!(!(!(1=2)))", true);
        Sentence.of(4, "a seventh of ( [ ! at it");
        Sentence.wish("y:[[[[[[[1]]]]]]]", 8);
        Sentence.wish("y:(((((((1=1)))))))?1", 8);
        Sentence.wish("y:!!!!!!!1=1?1", 8);
        Sentence.wish("y:!(!(!([1]=1)))?1", 8);
        Sentence.wish("y:!(!(![[1]]=1))?1", 8);
        Sentence.wish("y:!!!!!!1=[1]?1", 10);
        Sentence.wish("y:!!!!!!(1=1)?1", 8);
        Sentence.wish("y:1=1?[[[[[[ [1", 13);
        Sentence.wish("y:1=1&(1=2|(1=3&(!![ [1", 21);
        // open at once: two numbers for each bracket, for what is joined ahead of it, and for the comparison
        worth("y:0=1|1=1&8=1+1*[1+1*[1+1*[1+1*[1+1*[1+1*[1+1*1]]]]]]?5", 5);
        worth("y:0=1|1=1&(0=1|1=1&(0=1|1=1&(0=1|1=1&(0=1|1=1&(0=1|1=1&(0=1|1=1&3=1+1*2))))))?5", 5);
    }

    private static void bounds() {
        Sentence.of(5, "Behind each sign numbers are within -1,000,000 .. 1,000,000");
        worth("y:1000*1000", 1000000);
        worth("y:1000*1000+1", 1000000);
        worth("y:1000*1000+1-1", 999999);
        worth("y:1001*1000/2", 500000);
        worth("y:9999*9999", 1000000);
        worth("y:9999*9999*9999*9999", 1000000);
        worth("y:9999*9999-1", 999999);
        worth("y:0-1000*1000", -1000000);
        worth("y:0-1000*1000-1", -1000000);
        worth("y:0-1000*1000-1+1", -999999);
        worth("y:[0-1001]*1000/2", -500000);
        worth("y:[0-9999]*9999*9999", -1000000);
        worth("y:[0-9999]*9999*[0-9999]", 1000000);
        worth("y:[0-9999*9999]/[0-1]", 1000000);
        holds("9999*9999=1000*1000", true);
        holds("1000*1000>999*1001", true);
        Sentence.of(5, "/ cuts towards 0, by 0 gives 0.");
        worth("y:7/2", 3);
        worth("y:[0-7]/2", -3);
        worth("y:7/[0-2]", -3);
        worth("y:[0-7]/[0-2]", 3);
        worth("y:[0-1]/2", 0);
        worth("y:8/2", 4);
        worth("y:7/0", 0);
        worth("y:7/0+5", 5);
        worth("y:[0-7]/[1-1]", 0);
        worth("y:0/0", 0);
        worth("y:0/7", 0);
    }

    private static void worths() {
        Sentence.of(5, "WORTH of a WISH: the SUM of the first CLAUSE whose CONDITION holds (or has none), 0 without.");
        worth("y:1=1?5;y:1=1?6;y:7", 5);
        worth("y:1=2?5;y:1=1?6;y:7", 6);
        worth("y:1=2?5;y:1=2?6;y:7", 7);
        worth("y:7;y:1=1?5", 7);
        worth("y:7;y:8", 7);
        worth("y:1=2?5", 0);
        worth("y:1=2?5;y:1=2?6", 0);
        // as long as a TAPE can be
        worth("y:" + "1+".repeat(78) + "1 ", 79);
        worth("y:1=2?5;".repeat(19) + "y:1=1?42", 42);
        worth("y:!1=1?9;".repeat(17) + "y:42", 42);
    }

    private static void letters() {
        Sentence.of(15, "letters: g GAP, p the TURNING, t TILT, s what all four REACH together, n POINTS.");
        by("y:g", 2, -5);
        by("y:0-g", 0, -5);
        by("y:g*g", 1, 0);
        by("y:p", 0, 0);
        by("y:0-p", 5, -5);
        by("y:[p-3]*[p-3]", 3, 0);
        by("y:t", 1, 1);
        by("y:0-t", 0, -8);
        by("y:s", 1, 10);
        by("y:0-s", 0, -15);
        by("y:n", 0, 6);
        by("y:p=4?0-1", 4, -1);
        by("y:g=0&p>1?0-n", 4, -6);
        RockingTable table = Check.garden("g1,1,1,1;tw1x2y3z4");
        Check.tape(table, "y:s");
        table.text(1);
        table.wish(0);
        Sentence.due("s below 0, as legs are SHORT", table.best(1), -6);
        table.saw(0, 9);
        Sentence.due("s as legs are SHORT now", table.best(1), -15);
    }

    private static void by(String wish, int turning, int worth) {
        RockingTable table = Check.garden(SIX);
        Check.tape(table, wish);
        table.text(1);
        table.wish(0);
        Sentence.due("best(0) by " + wish, table.best(0), turning);
        Sentence.due("best(1) by " + wish, table.best(1), worth);
    }

    private static void holds() {
        Sentence.of(9, "The WISH that holds (NONE: none).");
        RockingTable table = Check.garden(SIX);
        for (int i = 0; i < 3; i++) {
            Check.tape(table, "y:1" + i);
            table.text(1);
        }
        Sentence.due("none at first", table.count(5), NONE);
        for (int i = 2; i >= 0; i--) {
            Sentence.due("wish(" + i + ")", table.wish(i), true);
            Sentence.due("count(5)", table.count(5), i);
            Sentence.due("best(1)", table.best(1), 10 + i);
        }
        Sentence.due("wish(2)", table.wish(2), true);
        Sentence.due("wish(2) again", table.wish(2), true);
        Sentence.due("wish(NONE)", table.wish(NONE), true);
        Sentence.due("count(5)", table.count(5), NONE);
        Sentence.due("best(1)", table.best(1), 0);
        Sentence.due("wish(NONE) again", table.wish(NONE), true);
        Sentence.of(9, "False: no such one, no GARDEN.");
        table.wish(1);
        for (int wish : new int[] {3, 4, -2, Integer.MIN_VALUE, Integer.MAX_VALUE}) {
            Sentence.due("wish(" + wish + ") of three", table.wish(wish), false);
        }
        Sentence.due("what held still does", table.count(5), 1);
        RockingTable bare = new RockingTable();
        Check.tape(bare, "y:1");
        bare.text(1);
        Sentence.due("no GARDEN: wish(0)", bare.wish(0), false);
        Sentence.due("no GARDEN: wish(NONE)", bare.wish(NONE), false);
        Sentence.due("no WISH: wish(0)", Check.garden(SIX).wish(0), false);
        Check.tape(table, "y:13");
        table.text(1);
        Sentence.due("wish(3) of four", table.wish(3), true);
        Sentence.due("wish(4) of four", table.wish(4), false);
    }

    private static void best() {
        Sentence.of(15, "none at first: the least GAP without its sign");
        RockingTable table = Check.garden(SIX);
        Sentence.due("best(0)", table.best(0), 1);
        Sentence.due("best(1)", table.best(1), 0);
        // GAPS 3, -2, -7, ..
        Sentence.due("below 0: best(0)", Check.garden(SIX + ";tw2").best(0), 1);
        Sentence.due("below 0: best(1)", Check.garden(SIX + ";tw2").best(1), 2);
        // GAPS 7, 2, -3, ..
        Sentence.due("above 0: best(1)", Check.garden(SIX + ";tx2").best(1), 2);
        Sentence.of(15, "the one with the least WORTH (of several the lowest)");
        // GAPS 1, -4, -9, ..: 0 and 3
        Sentence.due("0 and 3 are alike", Check.garden(SIX + ";tw4").best(0), 0);
        // GAPS -2, 2, -2, 2
        Sentence.due("all alike", Check.garden("g5,3,4,8").best(0), 0);
        // GAPS 10, 5, 0, ..
        Sentence.due("the last of three", Check.garden(SIX + ";tx5").best(0), 2);
        by("y:5-p/3*3", 3, 2);
        by("y:p/5*[0-1]", 5, -1);
        Sentence.of(15, "BEST whole TURNING by the WISH that holds (");
        Check.tape(table, "y:0-p");
        table.text(1);
        Sentence.due("one that doesn't hold", table.best(0), 1);
        table.wish(0);
        Sentence.due("it holds", table.best(0), 5);
        table.wish(NONE);
        Sentence.due("none again", table.best(0), 1);
        Sentence.of(15, "BEST: the TURNING (0), WORTH (1).");
        table.rock(0, 1);
        Sentence.due("best(0)", table.best(0), 1);
        Sentence.due("best(1)", table.best(1), 0);
        Sentence.of(15, "HIDDEN: no GARDEN, no such what.");
        for (int what : new int[] {-1, 2, Integer.MIN_VALUE, Integer.MAX_VALUE}) {
            Sentence.due("best(" + what + ")", table.best(what), HIDDEN);
        }
        Sentence.due("no GARDEN: best(0)", new RockingTable().best(0), HIDDEN);
        Sentence.due("no GARDEN: best(1)", new RockingTable().best(1), HIDDEN);
    }
}
