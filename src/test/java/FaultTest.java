import java.util.ArrayList;
import java.util.List;
import java.util.Random;
import java.util.regex.Matcher;
import java.util.regex.Pattern;

/**
 * FAULTS: those that the document names, and texts made by chance, whose FAULT is found by trying all
 * that could still come behind each of their beginnings.
 */
public final class FaultTest {
    private FaultTest() {
    }

    public static void main(String[] args) {
        gardens();
        wishes();
        gardensByChance();
        wishesByChance();
        Check.finish("FaultTest");
    }

    private static void garden(String text, int want) {
        Check.due("fault(0) of '" + text + "'", Check.fault(0, text), want);
    }

    private static void wish(String text, int want) {
        Check.due("fault(1) of '" + text + "'", Check.fault(1, text), want);
    }

    private static void gardens() {
        String four = "g1,2,3,4";
        garden("", 0);
        garden("   ", 3);
        garden(four, -1);
        garden("g00,99,0,09", -1);
        garden("  g 1 , 2,3 ,4 ", -1);
        garden("g", 1);
        garden("g ", 2);
        garden("g;", 1);
        garden("g,", 1);
        garden("gg", 1);
        garden("g1,2,3", 6);
        garden("g1,2,3 ", 7);
        garden("g1,2,3;t", 6);
        garden("g1,2,3 ;t", 7);
        garden("g1,2,3,4,5;", 10);
        garden("g1,2,3,4,5", 10);
        garden("g1,2,3,4,", 9);
        garden("g1,,2", 3);
        garden("g1 2", 3);
        garden("g100", 3);
        garden("g001", 3);
        garden("g1000", 3);
        garden("g1,2,3,4t", 8);
        garden(four + ";", 9);
        garden(four + " ; ", 11);
        garden(four + ";;", 9);
        garden(four + ";g1,2,3,4", 9);
        garden("t;t;" + four, 2);
        garden("c;c;c;c;" + four, -1);
        garden("c;c;c;c; c", 9);
        garden("t", 1);
        garden("t;c", 3);
        garden("ta", 2);
        garden("ta ", 3);
        garden("ta;", 2);
        garden("ta0", 2);
        garden("ta00;", 3);
        garden("ta000;", 4);
        garden("ta01;" + four, -1);
        garden("ta1;" + four, -1);
        garden("ta2;" + four, 12);
        garden("ta2;" + four + "  ", 14);
        garden(four + ";ta2", 12);
        garden("ta11;g1,1,1,1,1,1,1,1,1,1,1,1,1,1,1,1,1,1,1,1,1,1,1,1", -1);
        garden("ta11;g1,1,1,1,1,1,1,1,1,1,1,1,1,1,1,1,1,1,1,1,1,1", 49);
        garden("ta12;g", 3);
        garden("ta120;g", 4);
        garden("ta1 2", 4);
        garden("ta1a1", 3);
        garden("tw1x2y3z4a1w", 11);
        garden("tw99x00y0z5;" + four, -1);
        garden("tw100", 4);
        garden("tv1", 1);
        garden("tt1", 1);
        garden("tg", 1);
        garden("ct0", 2);
        garden("ct1n0;" + four, -1);
        garden("cn9t20;" + four, -1);
        garden("ct21;", 3);
        garden("ct210;", 4);
        garden("cn10", 3);
        garden("cn09;" + four, -1);
        garden("ct1t1", 3);
        garden("cn1n", 3);
        garden("ca1", 1);
        garden("x", 0);
        garden(" G", 1);
        garden("g1,2,3,4" + (char) 233, 8);
        garden("g1,2,3,4" + (char) 9, 8);
        String most = "g0,0,0,0,0,0,0,0,0,0,0,0,0,0,0,0,0,0,0,0,0,0,0,0";
        garden(most, -1);
        garden(most + ",", 48);
        garden(most + " ,0", 49);
        Check.due("fault(2)", Check.fault(2, four), -2);
        Check.due("fault(-1)", Check.fault(-1, four), -2);
    }

    private static void wishes() {
        wish("", 0);
        wish(" ", 1);
        wish("y", 1);
        wish("y:", 2);
        wish("y: ", 3);
        wish("x:1", 0);
        wish("y1", 1);
        wish("y:1", -1);
        wish(" y : 1 ", -1);
        wish("y:9999", -1);
        wish("y:0000", -1);
        wish("y:00000", 6);
        wish("y:1 2", 4);
        wish("y:1;", 4);
        wish("y:1;y", 5);
        wish("y:1;y:2", -1);
        wish("y:1;;", 4);
        wish("y:g+p-t*s/n", -1);
        wish("y:a", 2);
        wish("y:-1", 2);
        wish("y:1+", 4);
        wish("y:1+-", 4);
        wish("y:?", 2);
        wish("y:g?1", 3);
        wish("y:g=1", 5);
        wish("y:g=1;", 5);
        wish("y:g=1?", 6);
        wish("y:g=1?2", -1);
        wish("y:g=1?2?", 7);
        wish("y:g=1?2=3", 7);
        wish("y:g=1=2", 5);
        wish("y:g=1&p", 7);
        wish("y:g=1&p?1", 7);
        wish("y:g=1&p<2|t>3?s", -1);
        wish("y:g=1|?1", 6);
        wish("y:(g=1)?1", -1);
        wish("y:(g)", 4);
        wish("y:(g=1)", 7);
        wish("y:(g=1)=1", 7);
        wish("y:(g=1)+1", 7);
        wish("y:(g=1?", 6);
        wish("y:(g=1]", 6);
        wish("y:[g=1]", 4);
        wish("y:[g]=1?1", -1);
        wish("y:[g)", 4);
        wish("y:[(", 3);
        wish("y:[!", 3);
        wish("y:[]", 3);
        wish("y:g=!", 4);
        wish("y:g=(", 4);
        wish("y:!g", 4);
        wish("y:!g=1", 6);
        wish("y:!g=1?1", -1);
        wish("y:!!(!g=1)&!p=1?1", -1);
        wish("y:g=1?!", 6);
        wish("y:g=1?(", 6);
        wish("y:[[[[[[1]]]]]]", -1);
        wish("y:[[[[[[[1", 8);
        wish("y:((((((g=1))))))?1", -1);
        wish("y:(((((((", 8);
        wish("y:!!!!!!g=1?1", -1);
        wish("y:!!!!!!!", 8);
        wish("y:!(!(![g]=1))?1", -1);
        wish("y:!(!(![[g", 8);
        wish("y:!!!!!!g=1&!!!!!!g=1?[[[[[[1]]]]]]", -1);
        wish("y:!!!!!!g=[", 10);
        wish("y:!!!!!g=[1]+[1]?1", -1);
        wish("y:!!!!!g=[[", 10);
        wish("y:!!!!!!(", 8);
        wish("y:1" + (char) 161, 3);
    }

    // ---- by chance

    private static String blanked(String text, Random random) {
        StringBuilder blanked = new StringBuilder();
        for (int i = 0; i < text.length(); i++) {
            boolean inNumber = i > 0 && Character.isDigit(text.charAt(i)) && Character.isDigit(text.charAt(i - 1));
            if (random.nextInt(inNumber ? 60 : 15) == 0) {
                blanked.append(' ');
            }
            blanked.append(text.charAt(i));
        }
        return blanked.toString();
    }

    private static String spoilt(String text, String signs, Random random) {
        StringBuilder spoilt = new StringBuilder(text);
        for (int i = random.nextInt(3); i > 0 && spoilt.length() > 0; i--) {
            int at = random.nextInt(spoilt.length());
            char sign = signs.charAt(random.nextInt(signs.length()));
            switch (random.nextInt(3)) {
                case 0: spoilt.setCharAt(at, sign); break;
                case 1: spoilt.insert(at, sign); break;
                default: spoilt.deleteCharAt(at); break;
            }
        }
        return random.nextInt(6) == 0 ? spoilt.substring(0, random.nextInt(spoilt.length() + 1)) : spoilt.toString();
    }

    private static void gardensByChance() {
        Random random = new Random(11);
        for (int i = 0; i < 6000; i++) {
            List<String> clauses = new ArrayList<>();
            StringBuilder ground = new StringBuilder("g").append(random.nextInt(100));
            for (int k = 3 + 2 * random.nextInt(2) + (random.nextInt(8) == 0 ? 1 : 0); k > 0; k--) {
                ground.append(',').append(random.nextInt(100));
            }
            clauses.add(ground.toString());
            if (random.nextInt(20) == 0) {
                clauses.add(ground.toString());
            }
            for (int k = random.nextInt(3) / (1 + random.nextInt(2)); k > 0; k--) {
                clauses.add(random.nextInt(clauses.size() + 1), "t" + items("awxyz", 14, random));
            }
            for (int k = random.nextInt(6); k > 0; k--) {
                clauses.add(random.nextInt(clauses.size() + 1), "c" + items("tn", 24, random));
            }
            String text = blanked(spoilt(String.join(";", clauses), "gtcnawxyz,;0123456789 q", random), random);
            if (text.length() <= 160) {
                garden(text, gardenFault(text));
            }
        }
    }

    private static String items(String letters, int most, Random random) {
        StringBuilder items = new StringBuilder();
        for (int i = 0; i < letters.length(); i++) {
            if (random.nextInt(3) == 0) {
                items.append(letters.charAt(i)).append(random.nextInt(random.nextInt(3) == 0 ? most : 3));
            }
        }
        return items.toString();
    }

    /**
     * What may still come. E stands for any CLAUSE: behind a ; one is awaited even if all of them have
     * been told, as the document has a second g or t and a fifth c wrong at themselves.
     */
    private static final String[] BEHIND = {
        "", "1", ",1", "1,1", ",1,1", "1,1,1", ",1,1,1", "1,1,1,1", "g1,1,1,1", ";g1,1,1,1", "1;g1,1,1,1",
        "E", "E;g1,1,1,1"
    };

    private static int gardenFault(String text) {
        int plain = 0;
        while (plain < text.length() && canGoOn(text.substring(0, plain + 1), BEHIND, false)) {
            plain++;
        }
        // a number out of bounds is wrong at its last digit, if no third one stands behind it
        Matcher number = Pattern.compile("([awxyztnc]) *([0-9]{1,2})(?![0-9])").matcher(text);
        while (number.find()) {
            int last = number.end() - 1;
            int clause = text.lastIndexOf(';', number.start()) + 1;
            char kind = text.substring(clause).trim().charAt(0);
            int value = Integer.parseInt(number.group(2));
            char letter = number.group(1).charAt(0);
            boolean wrong = kind == 't' ? letter == 'a' && (value < 1 || value > 11)
                    : letter == 't' ? value < 1 || value > 20 : letter == 'n' && value > 9;
            if (wrong && last < plain) {
                return last;
            }
        }
        if (plain < text.length()) {
            return plain;
        }
        return wholeGarden(text, true) ? -1 : text.length();
    }

    private static boolean canGoOn(String text, String[] behind, boolean strict) {
        for (String more : behind) {
            if (wholeGarden(text + more, strict)) {
                return true;
            }
        }
        return false;
    }

    private static boolean wholeGarden(String text, boolean strict) {
        int grounds = 0;
        int tables = 0;
        int sorts = 0;
        int points = 0;
        int angle = 1;
        for (String clause : text.split(";", -1)) {
            if (clause.matches(" *g *[0-9]{1,2} *(, *[0-9]{1,2} *){3,23}")) {
                grounds++;
                points = clause.split(",").length;
            } else if (clause.matches(" *t *([awxyz] *[0-9]{1,2} *)*") && once(clause, "awxyz")) {
                tables++;
                Matcher told = Pattern.compile("a *([0-9]+)").matcher(clause);
                angle = told.find() ? Integer.parseInt(told.group(1)) : 1;
            } else if (clause.matches(" *c *([tn] *[0-9]{1,2} *)*") && once(clause, "tn")) {
                sorts++;
            } else if (strict || !clause.matches(" *E")) {
                return false;
            }
        }
        return grounds == 1 && tables <= 1 && sorts <= 4 && points % 2 == 0 && (!strict || 2 * angle < points);
    }

    private static boolean once(String clause, String letters) {
        for (char letter : letters.toCharArray()) {
            if (clause.chars().filter(c -> c == letter).count() > 1) {
                return false;
            }
        }
        return true;
    }

    private static void wishesByChance() {
        Random random = new Random(12);
        for (int i = 0; i < 5000; i++) {
            String text = SlowWish.any(random).text(random);
            text = blanked(spoilt(text, "y:;?!()[]=<>&|+-*/gptsn0129 q", random), random);
            if (i % 4 == 0) {
                int at = random.nextInt(text.length() + 1);
                String deep = "!!((![[[!!!".substring(random.nextInt(6));
                text = text.substring(0, at) + deep + text.substring(at);
            }
            if (text.length() <= 100) {
                wish(text, wishFault(text));
            }
        }
    }

    private static int wishFault(String text) {
        for (int end = 0; end < text.length(); end++) {
            if (!wishCanGoOn(text.substring(0, end + 1))) {
                return end;
            }
        }
        return wholeWish(text) ? -1 : text.length();
    }

    private static boolean wishCanGoOn(String text) {
        for (String first : new String[] {"", "1", "y:1", ":1"}) {
            if (closes(text + first, 0)) {
                return true;
            }
        }
        return false;
    }

    /** Tries every mixture of a comparison and the brackets that are open, the innermost first. */
    private static boolean closes(String text, int depth) {
        if (wholeWish(text) || wholeWish(text + "?1") || wholeWish(text + "=1?1")) {
            return true;
        }
        char open = innermost(text);
        if (open == 0 || depth > 8) {
            return false;
        }
        return open == '[' ? closes(text + "]", depth + 1)
                : closes(text + ")", depth + 1) || closes(text + "=1)", depth + 1);
    }

    private static char innermost(String text) {
        StringBuilder open = new StringBuilder();
        for (char sign : text.toCharArray()) {
            if (sign == '(' || sign == '[') {
                open.append(sign);
            } else if ((sign == ')' || sign == ']') && open.length() > 0) {
                open.setLength(open.length() - 1);
            }
        }
        return open.length() == 0 ? 0 : open.charAt(open.length() - 1);
    }

    private static final Pattern WRONG_SIGNS =
            Pattern.compile("[0-9] +[0-9]|[0-9]{5}|[^y:;?!()\\[\\]=<>&|+\\-*/gptsn0-9 ]");
    private static final Pattern BRACKETED_SUM = Pattern.compile("\\[([A-G])([*/+-][A-G])*\\]");
    private static final Pattern COMPARISON = Pattern.compile(
            "(?<![A-G\\]*/+-])([A-G])([*/+-][A-G])*[=<>]([A-G])([*/+-][A-G])*(?=[&|?)]|$)");
    private static final Pattern NEGATION = Pattern.compile("!([a-g])");
    private static final Pattern BRACKETED_CONDITION = Pattern.compile("\\(([a-g])([&|][a-g])*\\)");
    private static final Pattern BODY = Pattern.compile("(([a-g])([&|][a-g])*\\?)?[A-G]([*/+-][A-G])*");

    /** Puts parts together till nothing is left. */
    private static boolean wholeWish(String text) {
        if (WRONG_SIGNS.matcher(text).find()) {
            return false;
        }
        String left = text.replace(" ", "").replaceAll("[0-9]+", "A").replaceAll("[gptsn]", "A");
        for (String clause : left.split(";", -1)) {
            if (!wholeClause(clause)) {
                return false;
            }
        }
        return true;
    }

    /** A .. G: an ATOM with 0 .. 6 of ( [ ! within one another; a .. g: a UNIT likewise. */
    private static boolean wholeClause(String clause) {
        if (!clause.startsWith("y:")) {
            return false;
        }
        String rest = clause.substring(2);
        String was = "";
        while (!rest.equals(was)) {
            was = rest;
            rest = joined(rest, BRACKETED_SUM, 1, 'A');
            rest = joined(rest, COMPARISON, 0, 'a');
            rest = joined(rest, NEGATION, 1, 'a');
            rest = joined(rest, BRACKETED_CONDITION, 1, 'a');
        }
        return BODY.matcher(rest).matches();
    }

    /** Puts the first such part together, unless it has more than six within one another. */
    private static String joined(String text, Pattern form, int deeper, char base) {
        Matcher part = form.matcher(text);
        if (!part.find()) {
            return text;
        }
        int depth = 0;
        for (char sign : part.group().toCharArray()) {
            if (Character.isLetter(sign)) {
                depth = Math.max(depth, Character.toLowerCase(sign) - 'a');
            }
        }
        depth += deeper;
        if (depth > 6) {
            return text.substring(0, part.start()) + "#" + text.substring(part.end());
        }
        return text.substring(0, part.start()) + (char) (base + depth) + text.substring(part.end());
    }
}
