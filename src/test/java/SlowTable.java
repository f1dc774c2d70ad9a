import java.util.ArrayList;
import java.util.List;

/** The document's words taken one by one, without any care for speed: what answers are due. */
final class SlowTable {
    static final int NONE = -1;
    static final int HIDDEN = -1000000;

    int[] heights = new int[0];
    int[] shorts = new int[4];
    int angle = 0;
    List<int[]> cards = new ArrayList<>();
    List<SlowWish> wishes = new ArrayList<>();
    int held = NONE;
    List<int[]> rocked = new ArrayList<>();
    List<int[][]> past = new ArrayList<>();
    int[][] image = null;

    /** A place: TURNING p and num / den behind it. */
    record Place(int p, long num, long den) {
    }

    void plant(int[] newHeights, int newAngle, int[] newShorts, List<int[]> newCards) {
        heights = newHeights.clone();
        angle = newAngle;
        shorts = newShorts.clone();
        cards = newCards;
        held = NONE;
        rocked.clear();
        past.clear();
        image = null;
    }

    private int n() {
        return heights.length;
    }

    private boolean no(int p) {
        return p < 0 || p >= n();
    }

    private static boolean out(int v, int least, int most) {
        return v < least || v > most;
    }

    private static int reach(int[] h, int a, int[] s, int p, int leg) {
        int n = h.length;
        int[] at = {p, p + a, p + n / 2, p + a + n / 2};
        return h[at[leg] % n] - s[leg];
    }

    private static int gapOf(int[] h, int a, int[] s, int p) {
        return reach(h, a, s, p, 0) + reach(h, a, s, p, 2) - reach(h, a, s, p, 1) - reach(h, a, s, p, 3);
    }

    private static long gcd(long a, long b) {
        return b == 0 ? a : gcd(b, a % b);
    }

    private static List<Place> places(int[] h, int a, int[] s) {
        List<Place> all = new ArrayList<>();
        for (int p = 0; p < h.length; p++) {
            long here = gapOf(h, a, s, p);
            long next = gapOf(h, a, s, (p + 1) % h.length);
            if (here == 0) {
                all.add(new Place(p, 0, 1));
            } else if (here * next < 0) {
                // here + f * (next - here) = 0
                long num = Math.abs(here);
                long den = Math.abs(next - here);
                long g = gcd(num, den);
                all.add(new Place(p, num / g, den / g));
            }
        }
        return all;
    }

    private static long part(Place place, int what) {
        return what == 0 ? place.p : what == 1 ? place.num : place.den;
    }

    int height(int point) {
        return heights[point];
    }

    int shorter(int leg) {
        return n() == 0 || out(leg, 0, 3) ? NONE : shorts[leg];
    }

    int card(int sort, int what) {
        return out(sort, 0, cards.size() - 1) || out(what, 0, 1) ? NONE : cards.get(sort)[what];
    }

    boolean wish(int wish) {
        if (n() == 0 || out(wish, -1, wishes.size() - 1)) {
            return false;
        }
        held = wish;
        return true;
    }

    int gap(int p) {
        return no(p) ? HIDDEN : gapOf(heights, angle, shorts, p);
    }

    private int apart(int p, int leg) {
        return reach(heights, angle, shorts, p, leg) - reach(heights, angle, shorts, p, leg + 2);
    }

    int tilt(int p) {
        return no(p) ? NONE : Math.max(Math.abs(apart(p, 0)), Math.abs(apart(p, 1)));
    }

    int stands(int i, int what) {
        if (n() == 0) {
            return NONE;
        }
        List<Place> all = places(heights, angle, shorts);
        if (i == NONE) {
            return what == 0 ? all.size() : NONE;
        }
        return out(i, 0, all.size() - 1) || out(what, 0, 2) ? NONE : (int) part(all.get(i), what);
    }

    long level(int what) {
        if (n() == 0 || out(what, 0, 4)) {
            return NONE;
        }
        Place found = null;
        long bestNum = 0;
        long bestDen = 1;
        for (Place place : places(heights, angle, shorts)) {
            int next = (place.p + 1) % n();
            long most = 0;
            for (int leg = 0; leg < 2; leg++) {
                long change = apart(next, leg) - apart(place.p, leg);
                most = Math.max(most, Math.abs(apart(place.p, leg) * place.den + change * place.num));
            }
            if (found == null || most * bestDen < bestNum * place.den) {
                found = place;
                bestNum = most;
                bestDen = place.den;
            }
        }
        if (found == null) {
            return NONE;
        }
        long g = gcd(bestNum, bestDen);
        return what < 3 ? part(found, what) : what == 3 ? bestNum / g : bestDen / g;
    }

    private Place first(int[] h, int p, int span) {
        Place found = null;
        for (Place place : places(h, angle, shorts)) {
            if (far(place, p) <= (double) span && (found == null || far(place, p) < far(found, p))) {
                found = place;
            }
        }
        return found;
    }

    private double far(Place place, int p) {
        return Math.floorMod(place.p - p, n()) + (double) place.num / place.den;
    }

    int within(int p, int span, int what) {
        if (no(p) || out(span, 0, n()) || out(what, 0, 2)) {
            return NONE;
        }
        Place found = first(heights, p, span);
        return found == null ? NONE : (int) part(found, what);
    }

    int best(int what) {
        if (n() == 0 || out(what, 0, 1)) {
            return HIDDEN;
        }
        int found = -1;
        long least = Long.MAX_VALUE;
        for (int p = n() - 1; p >= 0; p--) {
            long worth = worth(p);
            if (worth <= least) {
                found = p;
                least = worth;
            }
        }
        return what == 0 ? found : (int) least;
    }

    private long worth(int p) {
        if (held == NONE) {
            return Math.abs(gap(p));
        }
        int all = 0;
        for (int leg = 0; leg < 4; leg++) {
            all += reach(heights, angle, shorts, p, leg);
        }
        return wishes.get(held).worth(new long[] {gap(p), p, tilt(p), all, n()});
    }

    int sawn(int p, int what) {
        if (no(p) || out(what, 0, 1)) {
            return NONE;
        }
        for (int leg = 0; leg < 4; leg++) {
            for (int by = 0; shorts[leg] + by <= 99; by++) {
                int[] sawn = shorts.clone();
                sawn[leg] += by;
                if (gapOf(heights, angle, sawn, p) == 0) {
                    return what == 0 ? leg : by;
                }
            }
        }
        return NONE;
    }

    int less() {
        return n() == 0 ? NONE : shorts[0] + shorts[1] + shorts[2] + shorts[3];
    }

    /** All rows of net numbers that make it STAND, the least ones first. */
    private List<int[]> rows(int p) {
        List<int[]> rows = new ArrayList<>();
        addRows(rows, new int[cards.size()], 0, gap(p));
        return rows;
    }

    private void addRows(List<int[]> rows, int[] net, int sort, int rest) {
        if (sort == net.length) {
            if (rest == 0) {
                rows.add(net.clone());
            }
            return;
        }
        for (int m = -cards.get(sort)[1]; m <= cards.get(sort)[1]; m++) {
            net[sort] = m;
            addRows(rows, net, sort + 1, rest + m * cards.get(sort)[0]);
        }
    }

    private static int used(int[] net) {
        int used = 0;
        for (int m : net) {
            used += Math.abs(m);
        }
        return used;
    }

    private int[] fewest(int p) {
        int[] found = null;
        for (int[] net : rows(p)) {
            if (found == null || used(net) < used(found)) {
                found = net;
            }
        }
        return found;
    }

    int wedges(int p, int what) {
        if (no(p) || out(what, -1, cards.size() - 1)) {
            return HIDDEN;
        }
        int[] found = fewest(p);
        return found == null ? HIDDEN : what == NONE ? used(found) : found[what];
    }

    int piles(int p) {
        return no(p) ? NONE : rows(p).size();
    }

    int cheap(int p, int heave, int cost, int what) {
        if (no(p) || out(heave, 0, 99) || out(cost, 0, 99) || out(what, 0, 1)) {
            return NONE;
        }
        int found = NONE;
        int least = NONE;
        for (int q = 0; q < n(); q++) {
            int[] net = fewest(q);
            if (net != null) {
                int way = Math.min(Math.floorMod(q - p, n()), Math.floorMod(p - q, n()));
                int all = way * heave + cost * used(net);
                if (found == NONE || all < least) {
                    found = q;
                    least = all;
                }
            }
        }
        return what == 0 ? found : least;
    }

    int rock(int p, int sign) {
        if (no(p) || out(sign, -1, 1) || rocked.size() == 20) {
            return NONE;
        }
        rocked.add(new int[] {p, sign});
        return rocked.size();
    }

    private boolean allSo(int[] h, int a, int[] s) {
        for (int[] one : rocked) {
            if (Integer.signum(gapOf(h, a, s, one[0])) != one[1]) {
                return false;
            }
        }
        return true;
    }

    private static int answer(List<Integer> fit, int what) {
        return what == 0 ? fit.size() : fit.isEmpty() ? NONE : what == 1 ? fit.get(0) : fit.get(fit.size() - 1);
    }

    int shorts(int leg, int what) {
        if (n() == 0 || out(leg, 0, 3) || out(what, 0, 2)) {
            return HIDDEN;
        }
        List<Integer> fit = new ArrayList<>();
        for (int v = 0; v <= 99; v++) {
            int[] s = shorts.clone();
            s[leg] = v;
            if (allSo(heights, angle, s)) {
                fit.add(v);
            }
        }
        return answer(fit, what);
    }

    int heights(int point, int what) {
        if (no(point) || out(what, 0, 2)) {
            return HIDDEN;
        }
        List<Integer> fit = new ArrayList<>();
        for (int v = 0; v <= 99; v++) {
            int[] h = heights.clone();
            h[point] = v;
            if (allSo(h, angle, shorts)) {
                fit.add(v);
            }
        }
        return answer(fit, what);
    }

    int angles() {
        int bits = n() == 0 ? NONE : 0;
        for (int a = 1; 2 * a < n(); a++) {
            bits += allSo(heights, a, shorts) ? 1 << a : 0;
        }
        return bits;
    }

    int steady(int what) {
        if (n() == 0 || out(what, 0, 1)) {
            return NONE;
        }
        int found = 1;
        for (int a = 2; 2 * a < n(); a++) {
            found = places(heights, a, shorts).size() > places(heights, found, shorts).size() ? a : found;
        }
        return what == 0 ? found : places(heights, found, shorts).size();
    }

    int likely(int p, int steps, int chance) {
        if (no(p) || out(steps, 0, 3) || out(chance, 0, 100)) {
            return NONE;
        }
        List<long[]> parts = new ArrayList<>();
        parts.add(new long[] {1000000000L, gap(p)});
        for (int step = 0; step < steps; step++) {
            for (int leg = 0; leg < 4; leg++) {
                List<long[]> split = new ArrayList<>();
                for (long[] one : parts) {
                    long sinks = one[0] * chance / 100;
                    split.add(new long[] {sinks, one[1] + (leg == 0 || leg == 2 ? -1 : 1)});
                    split.add(new long[] {one[0] - sinks, one[1]});
                }
                parts = split;
            }
        }
        long standing = 0;
        for (long[] one : parts) {
            standing += one[1] == 0 ? one[0] : 0;
        }
        return (int) standing;
    }

    int jug(int p, int leg) {
        if (no(p) || out(leg, 0, 3)) {
            return NONE;
        }
        if (gap(p) == 0) {
            return 1 + 2 + 4 + 8;
        }
        if (gap(p) > 0) {
            return 1 + 4 + (leg == 3 ? 8 : 2);
        }
        return 2 + 8 + (leg == 2 ? 4 : 1);
    }

    int soup(int give, int rim) {
        if (n() == 0 || out(give, 0, 99) || out(rim, 0, 99)) {
            return NONE;
        }
        int found = 0;
        for (int p = 0; p < n(); p++) {
            found += gap(p) >= -give && gap(p) <= give && tilt(p) <= rim ? 1 : 0;
        }
        return found;
    }

    int serves(int what) {
        if (n() == 0 || out(what, 0, 1)) {
            return HIDDEN;
        }
        int found = 0;
        int most = 0;
        for (int far = 0; far <= 400; far++) {
            for (int v : new int[] {-far, far}) {
                int same = 0;
                for (int p = 0; p < n(); p++) {
                    same += gap(p) == v ? 1 : 0;
                }
                if (same > most) {
                    most = same;
                    found = v;
                }
            }
        }
        return what == 0 ? found : most;
    }

    int rocky(int what) {
        if (n() == 0 || out(what, 0, 2)) {
            return NONE;
        }
        int together = 0;
        int longest = 0;
        for (int p = 0; p < n(); p++) {
            together += Math.abs(gap(p));
            int run = 0;
            while (run < n() && Integer.signum(gap((p + run) % n())) == (what == 1 ? 1 : -1)) {
                run++;
            }
            longest = Math.max(longest, run);
        }
        return what == 0 ? together : longest;
    }

    /** One seed's draws, one behind the other. */
    private static final class Draws {
        private long x;

        Draws(long seed) {
            x = seed;
        }

        int[] ground(int points, int most) {
            int[] ground = new int[points];
            for (int i = 0; i < points; i++) {
                x = x * 6364136223846793005L + 1442695040888963407L;
                ground[i] = (int) ((x >>> 33) % (most + 1));
            }
            return ground;
        }
    }

    int trial(int times, long seed, int most, int span) {
        if (n() == 0 || out(times, 1, 50) || out(most, 0, 99) || out(span, 0, n())) {
            return NONE;
        }
        Draws draws = new Draws(seed);
        int found = 0;
        for (int i = 0; i < times; i++) {
            found += first(draws.ground(n(), most), 0, span) != null ? 1 : 0;
        }
        return found;
    }

    int flip(int what) {
        if (n() == 0 || out(what, 0, 1)) {
            return NONE;
        }
        int found = NONE;
        int most = NONE;
        for (int digits = 123; digits <= 3210; digits++) {
            int[] whose = {digits / 1000, digits / 100 % 10, digits / 10 % 10, digits % 10};
            int seen = 0;
            for (int one : whose) {
                seen |= 1 << one;
            }
            if (seen == 15) {
                int[] s = {shorts[whose[0]], shorts[whose[1]], shorts[whose[2]], shorts[whose[3]]};
                int count = places(heights, angle, s).size();
                if (count > most) {
                    found = digits;
                    most = count;
                }
            }
        }
        return what == 0 ? found : most;
    }

    private boolean even(int[] h, int p) {
        return gapOf(h, angle, shorts, p) == 0 && gapOf(h, angle, shorts, (p + 1) % n()) == 0;
    }

    int plane(int p) {
        if (no(p)) {
            return NONE;
        }
        if (even(heights, p)) {
            return 0;
        }
        int[] h = heights.clone();
        for (int q = 0; q < n(); q++) {
            for (h[q] = 0; h[q] <= 99; h[q]++) {
                if (even(h, p)) {
                    return 1;
                }
            }
            h[q] = heights[q];
        }
        for (int q = 0; q < n(); q++) {
            for (int r = q + 1; r < n(); r++) {
                for (h[q] = 0; h[q] <= 99; h[q]++) {
                    for (h[r] = 0; h[r] <= 99; h[r]++) {
                        if (even(h, p)) {
                            return 2;
                        }
                    }
                }
                h[q] = heights[q];
                h[r] = heights[r];
            }
        }
        return NONE;
    }

    private int act() {
        past.add(new int[][] {heights.clone(), shorts.clone()});
        if (past.size() > 40) {
            past.remove(0);
        }
        return past.size();
    }

    int saw(int leg, int by) {
        if (n() == 0 || out(leg, 0, 3) || out(by, 1, 99) || shorts[leg] + by > 99) {
            return NONE;
        }
        int done = act();
        shorts[leg] += by;
        return done;
    }

    int heap(int point, int v) {
        if (no(point) || out(v, 0, 99) || heights[point] == v) {
            return NONE;
        }
        int done = act();
        heights[point] = v;
        return done;
    }

    int drawn(long seed, int most) {
        if (n() == 0 || out(most, 0, 99)) {
            return NONE;
        }
        int done = act();
        heights = new Draws(seed).ground(n(), most);
        return done;
    }

    int undo() {
        if (past.isEmpty()) {
            return NONE;
        }
        int[][] was = past.remove(past.size() - 1);
        heights = was[0];
        shorts = was[1];
        return past.size();
    }

    int image() {
        if (n() == 0) {
            return NONE;
        }
        image = new int[][] {heights.clone(), shorts.clone()};
        return n();
    }

    int back() {
        if (image == null) {
            return NONE;
        }
        heights = image[0].clone();
        shorts = image[1].clone();
        past.clear();
        return n();
    }

    int count(int what, int tape) {
        int[] all = {n(), angle, cards.size(), wishes.size(), tape, held, rocked.size(), past.size()};
        return out(what, 0, 7) ? HIDDEN : all[what];
    }
}
