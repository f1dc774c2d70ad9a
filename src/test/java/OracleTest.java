import java.util.ArrayList;
import java.util.List;
import java.util.Random;

/** Many runs of calls by chance, each answer held against SlowTable's. */
public final class OracleTest {
    private final Random random;
    private final RockingTable table = new RockingTable();
    private final SlowTable slow = new SlowTable();
    private int points = 0;
    private int calls = 0;
    private final StringBuilder run = new StringBuilder();

    private OracleTest(long seed) {
        random = new Random(seed);
    }

    public static void main(String[] args) {
        for (int seed = 0; seed < 2500; seed++) {
            OracleTest one = new OracleTest(seed);
            int calls = seed % 10 == 0 ? 480 : 120;
            if (seed % 7 != 0) {
                one.plant();
            }
            while (one.calls < calls) {
                one.ask(seed);
            }
        }
        planes();
        Check.finish("OracleTest");
    }

    /** HEIGHTS at their bounds, where two POINTS do it just or just not. */
    private static void planes() {
        Random random = new Random(13);
        for (int i = 0; i < 1500; i++) {
            int n = 4 + 2 * random.nextInt(3);
            int[] heights = new int[n];
            for (int k = 0; k < n; k++) {
                heights[k] = random.nextBoolean() ? edge(random) : 40 + random.nextInt(20);
            }
            int[] shorts = new int[4];
            for (int k = 0; k < 4 && random.nextInt(3) > 0; k++) {
                shorts[k] = random.nextBoolean() ? edge(random) : random.nextInt(4);
            }
            plane(heights, 1 + random.nextInt(n / 2 - 1), shorts, random.nextInt(n));
        }
        for (int i = 0; i < 1500; i++) {
            oneGapAlone(random);
        }
    }

    /** Eight POINTS by ANGLE 2: GAP is 0 at the next TURNING, and far or near at TURNING p, by other POINTS. */
    private static void oneGapAlone(Random random) {
        int[] shorts = {random.nextInt(100), random.nextInt(100), random.nextInt(100), random.nextInt(100)};
        int lean = shorts[0] + shorts[2] - shorts[1] - shorts[3];
        int half = Math.abs(lean) / 2;
        int rest = Math.abs(lean) - half;
        int a = random.nextInt(100);
        int b = random.nextInt(100);
        int c = random.nextInt(100);
        // GAP a + b - c - d less lean; often just what two of the four POINTS can do, or 1 more
        int capable = lean > 0 ? Math.max(99 - a, 99 - b) + c : Math.max(a, b) + 99 - c;
        int d = lean > 0 ? a + b - c - lean + capable : a + b - c - lean - capable;
        d = Math.max(0, Math.min(99, d + random.nextInt(3) - 1));
        int[] laid = lean > 0 ? new int[] {a, half, c, 0, b, rest, d, 0} : new int[] {a, 0, c, half, b, 0, d, rest};
        int p = random.nextInt(8);
        int[] heights = new int[8];
        for (int k = 0; k < 8; k++) {
            heights[(k + p) % 8] = laid[k];
        }
        plane(heights, 2, shorts, p);
    }

    private static void plane(int[] heights, int angle, int[] shorts, int p) {
        StringBuilder text = new StringBuilder("ta" + angle);
        for (int k = 0; k < 4; k++) {
            text.append("wxyz".charAt(k)).append(shorts[k]);
        }
        for (int k = 0; k < heights.length; k++) {
            text.append(k == 0 ? ";g" : ",").append(heights[k]);
        }
        RockingTable table = Check.garden(text.toString());
        SlowTable slow = new SlowTable();
        slow.plant(heights, angle, shorts, new ArrayList<>());
        Check.due(text + " plane " + p, table.plane(p), slow.plane(p));
    }

    private static int edge(Random random) {
        return random.nextBoolean() ? random.nextInt(3) : 99 - random.nextInt(3);
    }

    /** Mostly 0 .. most, now and then a little or far beyond. */
    private int any(int most) {
        int kind = random.nextInt(40);
        if (kind == 0) {
            return -1 - random.nextInt(2);
        }
        if (kind == 1) {
            return most + 1 + random.nextInt(2);
        }
        if (kind == 2) {
            return random.nextInt(4) == 0 ? random.nextInt() : Integer.MAX_VALUE - random.nextInt(3);
        }
        return random.nextInt(Math.max(1, most + 1));
    }

    private int turning() {
        return any(points - 1);
    }

    private void same(String call, long got, long want) {
        calls++;
        Check.due(run + " " + call, got, want);
    }

    private void plant() {
        int n = 4 + 2 * random.nextInt(random.nextInt(3) == 0 ? 11 : 4);
        int spread = new int[] {2, 4, 10, 30, 100}[random.nextInt(5)];
        int[] heights = new int[n];
        StringBuilder ground = new StringBuilder("g");
        for (int i = 0; i < n; i++) {
            heights[i] = random.nextInt(spread);
            ground.append(i == 0 ? "" : ",").append(heights[i]);
        }
        List<String> clauses = new ArrayList<>();
        clauses.add(ground.toString());
        int angle = 1;
        int[] shorts = new int[4];
        if (random.nextBoolean()) {
            StringBuilder told = new StringBuilder("t");
            for (int i = random.nextInt(2); i < 5; i += 1 + random.nextInt(3)) {
                int value = i == 0 ? 1 + random.nextInt(n / 2 - 1) : random.nextInt(random.nextBoolean() ? 5 : 100);
                told.append("awxyz".charAt(i)).append(value);
                if (i == 0) {
                    angle = value;
                } else {
                    shorts[i - 1] = value;
                }
            }
            clauses.add(random.nextInt(clauses.size() + 1), told.toString());
        }
        List<int[]> cards = new ArrayList<>();
        int groundAt = clauses.indexOf(ground.toString());
        int sorts = random.nextInt(5);
        for (int i = 0; i < sorts; i++) {
            int thick = random.nextInt(3) == 0 ? 1 : 1 + random.nextInt(20);
            int many = random.nextInt(3) == 0 ? 1 : random.nextInt(sorts == 4 && random.nextInt(20) != 0 ? 4 : 10);
            cards.add(new int[] {thick, many});
            clauses.add("c" + (thick == 1 ? "" : "t" + thick) + (many == 1 ? "" : "n" + many));
        }
        if (random.nextBoolean()) {
            clauses.add(clauses.remove(groundAt));
        }
        String text = String.join(random.nextBoolean() ? ";" : " ; ", clauses);
        if (text.length() > 160) {
            return;
        }
        Check.tape(table, text);
        same("fault(0) of " + text, table.fault(0), -1);
        same("text(0)", table.text(0), n);
        calls += 10;
        points = n;
        slow.plant(heights, angle, shorts, cards);
        run.setLength(0);
        run.append(text);
    }

    private void tellWish() {
        SlowWish wish = SlowWish.any(random);
        String text = wish.text(random);
        if (text.length() > 160) {
            return;
        }
        Check.tape(table, text);
        calls += 10;
        same("fault(1) of " + text, table.fault(1), -1);
        boolean full = slow.wishes.size() == 4;
        same("text(1) of " + text, table.text(1), full ? -1 : slow.wishes.size());
        same("count(4)", table.count(4), full ? text.length() : 0);
        if (!full) {
            slow.wishes.add(wish);
        }
        table.end(0);
        same("best(1) " + text, hold(full ? 3 : slow.wishes.size() - 1), 0);
        same("best(0) by " + text, table.best(0), slow.best(0));
        same("best(1) by " + text, table.best(1), slow.best(1));
    }

    private long hold(int wish) {
        return table.wish(wish) == slow.wish(wish) ? 0 : 1;
    }

    private void ask(int seed) {
        int kind = random.nextInt(7);
        if (kind == 0) {
            change();
        } else if (kind < 3) {
            askPlaces();
        } else if (kind < 5) {
            askMending();
        } else {
            askApart(seed);
        }
    }

    private void change() {
        int a = any(3);
        int p = turning();
        int v = random.nextInt(3) == 0 ? any(99) : any(6);
        long seed = random.nextLong();
        switch (random.nextInt(10)) {
            case 0: same("saw " + a + " " + v, table.saw(a, v), slow.saw(a, v)); break;
            case 1: case 2: same("heap " + p + " " + v, table.heap(p, v), slow.heap(p, v)); break;
            case 3: same("drawn " + seed + " " + v, table.drawn(seed, v), slow.drawn(seed, v)); break;
            case 4: same("undo", table.undo(), slow.undo()); break;
            case 5: same("image", table.image(), slow.image()); break;
            case 6: same("back", table.back(), slow.back()); break;
            case 7:
                if (random.nextInt(4) == 0) {
                    tellWish();
                }
                break;
            case 8:
                int wish = any(3) - random.nextInt(2);
                same("wish " + wish, hold(wish), 0);
                break;
            default:
                if (random.nextInt(8) == 0) {
                    plant();
                }
                break;
        }
        for (int q = 0; q < points; q++) {
            Check.due(run + " height " + q, table.height(q), slow.height(q));
        }
        calls += points;
    }

    private void askPlaces() {
        int p = turning();
        int what = any(2);
        int span = any(points);
        switch (random.nextInt(12)) {
            case 0: same("shorter " + what, table.shorter(what), slow.shorter(what)); break;
            case 1: same("card " + p + " " + what, table.card(p, what), slow.card(p, what)); break;
            case 2: same("gap " + p, table.gap(p), slow.gap(p)); break;
            case 3: same("tilt " + p, table.tilt(p), slow.tilt(p)); break;
            case 4: same("stands -1 " + what, table.stands(-1, what), slow.stands(-1, what)); break;
            case 5: same("stands " + p + " " + what, table.stands(p, what), slow.stands(p, what)); break;
            case 6: case 7:
                int five = any(4);
                same("level " + five, table.level(five), slow.level(five));
                break;
            case 8: case 9:
                same("within " + p + " " + span + " " + what, table.within(p, span, what), slow.within(p, span, what));
                break;
            case 10: same("best " + what, table.best(what), slow.best(what)); break;
            default: same("count " + p, table.count(p), slow.count(p, 0)); break;
        }
    }

    private void askMending() {
        int p = turning();
        int what = any(2);
        int leg = any(3);
        switch (random.nextInt(11)) {
            case 0: same("sawn " + p + " " + what, table.sawn(p, what), slow.sawn(p, what)); break;
            case 1: same("less", table.less(), slow.less()); break;
            case 2: case 3:
                same("wedges " + p + " " + (leg - 1), table.wedges(p, leg - 1), slow.wedges(p, leg - 1));
                break;
            case 4: same("piles " + p, table.piles(p), slow.piles(p)); break;
            case 5:
                int sign = random.nextInt(3) == 0 ? any(1) - random.nextInt(2) : Integer.signum(slow.gap(p));
                if (random.nextInt(3) == 0) {
                    same("rock " + p + " " + sign, table.rock(p, sign), slow.rock(p, sign));
                }
                break;
            case 6: same("shorts " + leg + " " + what, table.shorts(leg, what), slow.shorts(leg, what)); break;
            case 7: case 8: same("heights " + p + " " + what, table.heights(p, what), slow.heights(p, what)); break;
            case 9: same("angles", table.angles(), slow.angles()); break;
            default: same("steady " + what, table.steady(what), slow.steady(what)); break;
        }
    }

    private void askApart(int seed) {
        int p = turning();
        int what = any(2);
        int a = random.nextBoolean() ? any(99) : any(8);
        int b = random.nextBoolean() ? any(99) : any(20);
        switch (random.nextInt(11)) {
            case 0:
                int chance = any(100);
                int steps = any(3);
                same("likely " + p + " " + steps + " " + chance, table.likely(p, steps, chance), slow.likely(p, steps, chance));
                break;
            case 1: same("jug " + p + " " + what, table.jug(p, what), slow.jug(p, what)); break;
            case 2: same("soup " + a + " " + b, table.soup(a, b), slow.soup(a, b)); break;
            case 3: same("serves " + what, table.serves(what), slow.serves(what)); break;
            case 4: case 5: same("rocky " + what, table.rocky(what), slow.rocky(what)); break;
            case 6:
                same("cheap " + p + " " + a + " " + b + " " + what, table.cheap(p, a, b, what), slow.cheap(p, a, b, what));
                break;
            case 7:
                int n = any(50);
                int span = any(points);
                long x = random.nextLong();
                same("trial " + n + " " + x + " " + a + " " + span, table.trial(n, x, a, span), slow.trial(n, x, a, span));
                break;
            case 8: same("flip " + what, table.flip(what), slow.flip(what)); break;
            default:
                if (seed % 20 == 1 && (points < 12 || random.nextInt(10) == 0)) {
                    same("plane " + p, table.plane(p), slow.plane(p));
                }
                break;
        }
    }
}
