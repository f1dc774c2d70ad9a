import java.util.Arrays;
import java.util.NoSuchElementException;

/**
 * A table with four legs that is turned on a round of uneven ground till it stands. The words in
 * capitals are those of the document.
 */
public final class RockingTable {
    /** None; refused. */
    public static final int NONE = -1;
    /** Not told. */
    public static final int HIDDEN = -1000000;

    private static final int LEGS = 4;
    private static final int MOST_POINTS = 24;
    private static final int MOST_SORTS = 4;
    private static final int MOST_WISHES = 4;
    /** The greatest HEIGHT, SHORT, GIVE, RIM, HEAVE, COST and most of a draw. */
    private static final int MOST = 99;
    private static final int MOST_STEPS = 3;
    private static final int MOST_TRIALS = 50;
    private static final int ALL_PARTS = 1000000000;

    private final Tape tape = new Tape();
    private final GardenReader gardenReader = new GardenReader();
    private final WishReader wishReader = new WishReader();
    private final Wish[] wishes = new Wish[MOST_WISHES];
    private int wishCount = 0;
    private int held = NONE;
    private Garden garden = new Garden();
    /** A text is read into this one, so that a FAULT leaves the GARDEN alone. */
    private Garden draft = new Garden();
    private final Rocked rocked = new Rocked();
    private final Acts acts = new Acts();
    private final int[] kept = new int[Garden.LIE];
    private boolean hasKept = false;
    private final Cards cards = new Cards();
    private final Round round = new Round();
    private final Dice dice = new Dice();
    /** Heights of grounds that are only tried, and how GAPS follow POINTS. */
    private final int[] row = new int[MOST_POINTS];
    private final int[] nextRow = new int[MOST_POINTS];

    public RockingTable() {
        for (int i = 0; i < wishes.length; i++) {
            wishes[i] = new Wish();
        }
    }

    // ---- texts

    public int feed(int a, int b, int c, int d, int e) {
        int more = Tape.bytesIn(a) + Tape.bytesIn(b) + Tape.bytesIn(c) + Tape.bytesIn(d) + Tape.bytesIn(e);
        if (tape.length + more > Tape.ROOM) {
            return NONE;
        }
        tape.add(a);
        tape.add(b);
        tape.add(c);
        tape.add(d);
        tape.add(e);
        return tape.length;
    }

    public boolean end(int n) {
        if (n < 0 || n > tape.length) {
            return false;
        }
        tape.length = n;
        return true;
    }

    public int fault(int sort) {
        if (sort == 0) {
            return gardenReader.read(tape, draft);
        }
        return sort == 1 ? wishReader.read(tape) : -2;
    }

    public int text(int sort) {
        if (sort == 0) {
            return gardenReader.read(tape, draft) == NONE ? takeGarden() : NONE;
        }
        if (sort == 1) {
            return wishReader.read(tape) == NONE ? takeWish() : NONE;
        }
        return NONE;
    }

    private int takeGarden() {
        Garden read = draft;
        draft = garden;
        garden = read;
        held = NONE;
        hasKept = false;
        rocked.size = 0;
        acts.forget();
        cards.built = false;
        tape.length = 0;
        return garden.points;
    }

    private int takeWish() {
        if (wishCount < 0 || wishCount >= wishes.length) {
            return NONE;
        }
        wishes[wishCount].take(wishReader.code, wishReader.size);
        tape.length = 0;
        wishCount++;
        return wishCount - 1;
    }

    public boolean wish(int wish) {
        if (noGarden() || wish < NONE || wish >= wishCount) {
            return false;
        }
        held = wish;
        return true;
    }

    // ---- what is told

    public int height(int point) throws NoSuchElementException {
        if (!garden.has(point)) {
            throw new NoSuchElementException();
        }
        return garden.heightOf(point);
    }

    public int shorter(int leg) {
        return noGarden() || !isLeg(leg) ? NONE : garden.shortOf(leg);
    }

    public int card(int sort, int what) {
        if (sort < 0 || sort >= garden.sorts || sort >= MOST_SORTS || what < 0 || what > 1) {
            return NONE;
        }
        return what == 0 ? garden.thick[sort] : garden.many[sort];
    }

    public int count(int what) {
        switch (what) {
            case 0:
                return garden.points;
            case 1:
                return garden.angle;
            case 2:
                return garden.sorts;
            case 3:
                return wishCount;
            case 4:
                return tape.length;
            case 5:
                return held;
            case 6:
                return rocked.size;
            case 7:
                return acts.size;
            default:
                return HIDDEN;
        }
    }

    // ---- how it stands

    public int gap(int p) {
        return garden.has(p) ? garden.gapAt(p) : HIDDEN;
    }

    public int tilt(int p) {
        return garden.has(p) ? garden.tiltAt(p) : NONE;
    }

    public int stands(int i, int what) {
        if (noGarden() || i < NONE || what < 0 || what > 2 || i == NONE && what != 0) {
            return NONE;
        }
        layRound();
        if (i == NONE) {
            return round.standCount();
        }
        int p = round.standAt(i);
        return p == NONE ? NONE : round.place(p, what);
    }

    public long level(int what) {
        if (noGarden() || what < 0 || what > 4) {
            return NONE;
        }
        layRound();
        int p = levellest();
        if (p == NONE) {
            return NONE;
        }
        if (what <= 2) {
            return round.place(p, what);
        }
        int below = round.place(p, 2);
        int above = tiltParts(p, round.place(p, 1), below);
        int shared = common(above, below);
        return shared == 0 ? NONE : (what == 3 ? above : below) / shared;
    }

    private int levellest() {
        int found = NONE;
        long leastAbove = 0;
        long leastBelow = 1;
        for (int p = 0; p < garden.points; p++) {
            if (round.standsFrom(p)) {
                int below = round.place(p, 2);
                int above = tiltParts(p, round.place(p, 1), below);
                if (found == NONE || above * leastBelow < leastAbove * below) {
                    found = p;
                    leastAbove = above;
                    leastBelow = below;
                }
            }
        }
        return found;
    }

    /** TILT at p and above / below, times below. */
    private int tiltParts(int p, int above, int below) {
        int next = garden.around(p + 1);
        int even = garden.apart(p, 0) * (below - above) + garden.apart(next, 0) * above;
        int odd = garden.apart(p, 1) * (below - above) + garden.apart(next, 1) * above;
        return Math.max(Math.abs(even), Math.abs(odd));
    }

    public int within(int p, int span, int what) {
        if (!garden.has(p) || span < 0 || span > garden.points || what < 0 || what > 2) {
            return NONE;
        }
        layRound();
        int found = round.firstWithin(p, span);
        return found == NONE ? NONE : round.place(found, what);
    }

    public int best(int what) {
        if (noGarden() || what < 0 || what > 1) {
            return HIDDEN;
        }
        int found = 0;
        int least = worthOf(0);
        for (int p = 1; p < garden.points; p++) {
            int worth = worthOf(p);
            if (worth < least) {
                found = p;
                least = worth;
            }
        }
        return what == 0 ? found : least;
    }

    private int worthOf(int p) {
        int above = garden.gapAt(p);
        if (held < 0 || held >= wishes.length) {
            return Math.abs(above);
        }
        return wishes[held].worth(above, p, garden.tiltAt(p), garden.reachOfAll(p), garden.points);
    }

    // ---- how it is made to stand

    public int sawn(int p, int what) {
        if (!garden.has(p) || what < 0 || what > 1) {
            return NONE;
        }
        int above = garden.gapAt(p);
        if (above == 0) {
            return 0;
        }
        int by = Math.abs(above);
        for (int leg = above > 0 ? 0 : 1; leg < LEGS; leg += 2) {
            if (garden.shortOf(leg) + by <= MOST) {
                return what == 0 ? leg : by;
            }
        }
        return NONE;
    }

    public int less() {
        if (noGarden()) {
            return NONE;
        }
        int all = 0;
        for (int leg = 0; leg < LEGS; leg++) {
            all += garden.shortOf(leg);
        }
        return all;
    }

    public int wedges(int p, int what) {
        if (!garden.has(p) || what < NONE || what >= garden.sorts || what >= MOST_SORTS) {
            return HIDDEN;
        }
        int fewest = cards.fewest(garden, garden.gapAt(p));
        if (fewest == NONE) {
            return HIDDEN;
        }
        return what == NONE ? fewest : cards.net[what];
    }

    public int piles(int p) {
        return garden.has(p) ? cards.rows(garden, garden.gapAt(p)) : NONE;
    }

    public int cheap(int p, int heave, int cost, int what) {
        if (!garden.has(p) || !isTold(heave) || !isTold(cost) || what < 0 || what > 1) {
            return NONE;
        }
        int found = NONE;
        int least = 0;
        for (int q = 0; q < garden.points; q++) {
            int fewest = cards.fewest(garden, garden.gapAt(q));
            if (fewest != NONE) {
                int way = Math.abs(q - p);
                int together = heave * Math.min(way, garden.points - way) + cost * fewest;
                if (found == NONE || together < least) {
                    found = q;
                    least = together;
                }
            }
        }
        return found == NONE || what == 0 ? found : least;
    }

    public int plane(int p) {
        if (!garden.has(p)) {
            return NONE;
        }
        int next = garden.around(p + 1);
        int here = garden.gapAt(p);
        int there = garden.gapAt(next);
        if (here == 0 && there == 0) {
            return 0;
        }
        garden.laySlopes(p, row);
        garden.laySlopes(next, nextRow);
        int points = Math.min(garden.points, MOST_POINTS);
        for (int q = 0; q < points; q++) {
            if (evenedByOne(q, here, there)) {
                return 1;
            }
        }
        for (int q = 0; q < points; q++) {
            for (int r = q + 1; r < points; r++) {
                if (evenedByTwo(q, r, here, there)) {
                    return 2;
                }
            }
        }
        return NONE;
    }

    private boolean evenedByOne(int q, int here, int there) {
        int by = changeAlong(q, here, there);
        return row[q] * by == -here && nextRow[q] * by == -there && isTold(garden.heightOf(q) + by);
    }

    /** By how much POINT q alone would have to be higher so that at least one of the two GAPS is gone. */
    private int changeAlong(int q, int here, int there) {
        return row[q] != 0 ? -here * row[q] : -there * nextRow[q];
    }

    private boolean evenedByTwo(int q, int r, int here, int there) {
        boolean touchesNone = row[q] == 0 && nextRow[q] == 0 || row[r] == 0 && nextRow[r] == 0;
        if (touchesNone) {
            return false;
        }
        int cross = row[q] * nextRow[r] - row[r] * nextRow[q];
        if (cross == 0) {
            return evenedAlongOneLine(q, r, here, there);
        }
        int byQ = (row[r] * there - here * nextRow[r]) / cross;
        int byR = (here * nextRow[q] - row[q] * there) / cross;
        return row[q] * byQ + row[r] * byR == -here
                && nextRow[q] * byQ + nextRow[r] * byR == -there
                && isTold(garden.heightOf(q) + byQ)
                && isTold(garden.heightOf(r) + byR);
    }

    /** Both POINTS move the two GAPS alike, or against one another: only their sum has to be enough. */
    private boolean evenedAlongOneLine(int q, int r, int here, int there) {
        int by = changeAlong(q, here, there);
        if (row[q] * by != -here || nextRow[q] * by != -there) {
            return false;
        }
        boolean alike = row[q] == row[r] && nextRow[q] == nextRow[r];
        int heightQ = garden.heightOf(q);
        int heightR = garden.heightOf(r);
        int lowest = -heightQ + (alike ? -heightR : heightR - MOST);
        int highest = MOST - heightQ + (alike ? MOST - heightR : heightR);
        return by >= lowest && by <= highest;
    }

    // ---- what is found by how it rocked

    public int rock(int p, int sign) {
        if (!garden.has(p) || sign < -1 || sign > 1) {
            return NONE;
        }
        return rocked.add(p, sign);
    }

    public int shorts(int leg, int what) {
        if (noGarden() || !isLeg(leg) || what < 0 || what > 2) {
            return HIDDEN;
        }
        int slope = leg % 2 == 0 ? -1 : 1;
        rocked.startRange();
        for (int i = 0; i < rocked.size; i++) {
            int base = garden.gapAt(rocked.turningOf(i)) - slope * garden.shortOf(leg);
            rocked.narrow(base, slope, rocked.signOf(i));
        }
        return rocked.rangeAnswer(what);
    }

    public int heights(int point, int what) {
        if (!garden.has(point) || what < 0 || what > 2) {
            return HIDDEN;
        }
        rocked.startRange();
        for (int i = 0; i < rocked.size; i++) {
            int p = rocked.turningOf(i);
            int slope = garden.slope(p, point);
            rocked.narrow(garden.gapAt(p) - slope * garden.heightOf(point), slope, rocked.signOf(i));
        }
        return rocked.rangeAnswer(what);
    }

    public int angles() {
        if (noGarden()) {
            return NONE;
        }
        int bits = 0;
        for (int angle = 1; angle < garden.points / 2; angle++) {
            if (rockedSoWith(angle)) {
                bits |= 1 << angle;
            }
        }
        return bits;
    }

    private boolean rockedSoWith(int angle) {
        int lean = garden.lean();
        for (int i = 0; i < rocked.size; i++) {
            int above = garden.groundGap(garden.heights, angle, rocked.turningOf(i)) - lean;
            if (Integer.signum(above) != rocked.signOf(i)) {
                return false;
            }
        }
        return true;
    }

    // ---- what would be

    public int steady(int what) {
        if (noGarden() || what < 0 || what > 1) {
            return NONE;
        }
        int found = NONE;
        int most = NONE;
        for (int angle = 1; angle < garden.points / 2; angle++) {
            round.lay(garden, garden.heights, angle);
            int stands = round.standCount();
            if (stands > most) {
                found = angle;
                most = stands;
            }
        }
        return what == 0 ? found : most;
    }

    public int flip(int what) {
        if (noGarden() || what < 0 || what > 1) {
            return NONE;
        }
        layRound();
        int found = NONE;
        int most = NONE;
        for (int way = 0; way < LEGS * LEGS * LEGS; way++) {
            int first = way / (LEGS * LEGS);
            int second = way / LEGS % LEGS;
            int third = way % LEGS;
            if (first != second && first != third && second != third) {
                int fourth = LEGS * (LEGS - 1) / 2 - first - second - third;
                round.lean = garden.leanOf(first, second, third, fourth);
                int stands = round.standCount();
                if (stands > most) {
                    found = first * 1000 + second * 100 + third * 10 + fourth;
                    most = stands;
                }
            }
        }
        return what == 0 ? found : most;
    }

    public int likely(int p, int n, int chance) {
        if (!garden.has(p) || n < 0 || n > MOST_STEPS || chance < 0 || chance > 100) {
            return NONE;
        }
        return (int) standingParts(ALL_PARTS, garden.gapAt(p), n * LEGS, chance);
    }

    /**
     * Of these parts those in which GAP is 0 when so many legs more have been looked at: the last one
     * is leg 3, so that an even number left means leg 0 or 2.
     */
    private static long standingParts(long parts, int above, int left, int chance) {
        boolean outOfReach = above > left / 2 || -above > left - left / 2;
        if (parts == 0 || left < 0 || outOfReach) {
            return 0;
        }
        if (left == 0) {
            return parts;
        }
        long sinking = parts * chance / 100;
        int sunk = left % 2 == 0 ? above - 1 : above + 1;
        return standingParts(sinking, sunk, left - 1, chance)
                + standingParts(parts - sinking, above, left - 1, chance);
    }

    public int trial(int n, long seed, int most, int span) {
        if (noGarden() || n < 1 || n > MOST_TRIALS || !isTold(most) || span < 0 || span > garden.points) {
            return NONE;
        }
        dice.x = seed;
        int standing = 0;
        for (int i = 0; i < n; i++) {
            drawInto(row, most);
            round.lay(garden, row, garden.angle);
            if (round.firstWithin(0, span) != NONE) {
                standing++;
            }
        }
        return standing;
    }

    private void drawInto(int[] ground, int most) {
        for (int point = 0; point < garden.points && point < ground.length; point++) {
            ground[point] = dice.draw(most + 1);
        }
    }

    // ---- apart

    public int jug(int p, int leg) {
        if (!garden.has(p) || !isLeg(leg)) {
            return NONE;
        }
        int above = garden.gapAt(p);
        if (above == 0) {
            return 15;
        }
        if (above > 0) {
            return 5 | 1 << (leg % 2 == 1 ? leg : 1);
        }
        return 10 | 1 << (leg % 2 == 0 ? leg : 0);
    }

    public int soup(int give, int rim) {
        if (noGarden() || !isTold(give) || !isTold(rim)) {
            return NONE;
        }
        int calm = 0;
        for (int p = 0; p < garden.points; p++) {
            if (Math.abs(garden.gapAt(p)) <= give && garden.tiltAt(p) <= rim) {
                calm++;
            }
        }
        return calm;
    }

    public int serves(int what) {
        if (noGarden() || what < 0 || what > 1) {
            return HIDDEN;
        }
        layRound();
        int found = 0;
        int most = 0;
        for (int p = 0; p < garden.points; p++) {
            int above = round.gapAt(p);
            int turnings = round.turningsWith(above);
            if (turnings > most || turnings == most && isNearer(above, found)) {
                found = above;
                most = turnings;
            }
        }
        return what == 0 ? found : most;
    }

    private static boolean isNearer(int above, int than) {
        int far = Math.abs(above);
        int farThan = Math.abs(than);
        return far < farThan || far == farThan && above < than;
    }

    public int rocky(int what) {
        if (noGarden() || what < 0 || what > 2) {
            return NONE;
        }
        layRound();
        if (what > 0) {
            return round.longestRun(what == 1 ? 1 : -1);
        }
        int together = 0;
        for (int p = 0; p < garden.points; p++) {
            together += Math.abs(round.gapAt(p));
        }
        return together;
    }

    // ---- acts

    public int saw(int leg, int by) {
        if (noGarden() || !isLeg(leg) || by < 1 || by > MOST || garden.shortOf(leg) + by > MOST) {
            return NONE;
        }
        acts.keep(garden);
        garden.shorts[leg] += by;
        return acts.size;
    }

    public int heap(int point, int v) {
        if (!garden.has(point) || !isTold(v) || garden.heightOf(point) == v) {
            return NONE;
        }
        acts.keep(garden);
        garden.heights[point] = v;
        return acts.size;
    }

    public int drawn(long seed, int most) {
        if (noGarden() || !isTold(most)) {
            return NONE;
        }
        acts.keep(garden);
        dice.x = seed;
        drawInto(garden.heights, most);
        return acts.size;
    }

    public int undo() {
        return acts.takeBack(garden) ? acts.size : NONE;
    }

    public int image() {
        if (noGarden()) {
            return NONE;
        }
        garden.store(kept, 0);
        hasKept = true;
        return garden.points;
    }

    public int back() {
        if (!hasKept) {
            return NONE;
        }
        garden.restore(kept, 0);
        acts.forget();
        return garden.points;
    }

    // ---- what many of them need

    private boolean noGarden() {
        return garden.points == 0;
    }

    private void layRound() {
        round.lay(garden, garden.heights, garden.angle);
    }

    private static boolean isLeg(int leg) {
        return leg >= 0 && leg < LEGS;
    }

    private static boolean isTold(int number) {
        return number >= 0 && number <= MOST;
    }

    /** The greatest number that divides both; the other one, if one is 0. */
    private static int common(int a, int b) {
        int more = Math.abs(a);
        int rest = Math.abs(b);
        for (int i = 0; i < 64 && rest != 0; i++) {
            int left = more % rest;
            more = rest;
            rest = left;
        }
        return more;
    }

    /** The bytes that were fed, and the place at which they are being read. */
    private static final class Tape {
        static final int ROOM = 160;
        static final int OVER = -1;

        private final int[] bytes = new int[ROOM];
        int length = 0;
        int at = 0;

        static int bytesIn(int word) {
            int found = 0;
            for (int shift = 24; shift >= 0; shift -= 8) {
                if ((word >>> shift & 255) != 0) {
                    found++;
                }
            }
            return found;
        }

        void add(int word) {
            for (int shift = 24; shift >= 0; shift -= 8) {
                int one = word >>> shift & 255;
                if (one != 0 && length >= 0 && length < bytes.length) {
                    bytes[length] = one;
                    length++;
                }
            }
        }

        /** The next byte that is no blank, left where it is; OVER behind the last one. */
        int sign() {
            for (int i = at; i >= 0 && i < length && i < bytes.length; i++) {
                if (bytes[i] != ' ') {
                    at = i;
                    return bytes[i];
                }
            }
            at = length;
            return OVER;
        }

        /** Goes over this sign; stays at another one. */
        boolean pass(int wanted) {
            if (sign() != wanted) {
                return false;
            }
            at++;
            return true;
        }

        /** The number right here; NONE, at the wrong byte, if there is none or one digit too many. */
        int number(int mostDigits) {
            int value = 0;
            int digits = 0;
            for (; at >= 0 && at < length && at < bytes.length; at++) {
                int one = bytes[at];
                if (one < '0' || one > '9') {
                    break;
                }
                if (digits == mostDigits) {
                    return NONE;
                }
                value = value * 10 + one - '0';
                digits++;
            }
            return digits == 0 ? NONE : value;
        }
    }

    /** The ground, the table on it, the cards; no GARDEN, if it has no POINTS. */
    private static final class Garden {
        /** How many numbers a lie has: all that ACTS can change. */
        static final int LIE = MOST_POINTS + LEGS;

        final int[] heights = new int[MOST_POINTS];
        final int[] shorts = new int[LEGS];
        final int[] thick = new int[MOST_SORTS];
        final int[] many = new int[MOST_SORTS];
        int points = 0;
        int angle = 0;
        int sorts = 0;

        /** As it is before a text has told anything; a sort that isn't there counts as none of it. */
        void clear() {
            points = 0;
            angle = 1;
            sorts = 0;
            Arrays.fill(shorts, 0);
            Arrays.fill(thick, 1);
            Arrays.fill(many, 0);
        }

        /** TURNINGS and POINTS go by the same numbers. */
        boolean has(int p) {
            return p >= 0 && p < points && p < MOST_POINTS;
        }

        int around(int p) {
            return p >= points ? p - points : p;
        }

        int heightOf(int point) {
            return has(point) ? heights[point] : 0;
        }

        int shortOf(int leg) {
            return isLeg(leg) ? shorts[leg] : 0;
        }

        int pointBeneath(int p, int leg) {
            int first = leg % 2 == 0 ? p : around(p + angle);
            return leg < 2 ? first : around(first + points / 2);
        }

        int reach(int p, int leg) {
            return heightOf(pointBeneath(p, leg)) - shortOf(leg);
        }

        int reachOfAll(int p) {
            return reach(p, 0) + reach(p, 1) + reach(p, 2) + reach(p, 3);
        }

        /** How far a leg REACHES above the one across from it, with its sign. */
        int apart(int p, int leg) {
            return reach(p, leg) - reach(p, leg + 2);
        }

        int tiltAt(int p) {
            return Math.max(Math.abs(apart(p, 0)), Math.abs(apart(p, 1)));
        }

        int gapAt(int p) {
            return groundGap(heights, angle, p) - lean();
        }

        /** By how much less GAP is than with whole legs. */
        int lean() {
            return leanOf(0, 1, 2, 3);
        }

        /** The same if legs 0, 1, 2, 3 are as SHORT as these ones. */
        int leanOf(int first, int second, int third, int fourth) {
            return shortOf(first) + shortOf(third) - shortOf(second) - shortOf(fourth);
        }

        /** GAP with whole legs, on any ground with as many POINTS and by any ANGLE. */
        int groundGap(int[] ground, int by, int p) {
            int half = points / 2;
            int second = around(p + by);
            int third = around(p + half);
            int fourth = around(second + half);
            int length = Math.min(ground.length, points);
            boolean inside = p >= 0 && p < length && second >= 0 && second < length
                    && third >= 0 && third < length && fourth >= 0 && fourth < length;
            return inside ? ground[p] + ground[third] - ground[second] - ground[fourth] : 0;
        }

        /** How much GAP at a TURNING grows if a POINT grows by 1. */
        int slope(int p, int point) {
            for (int leg = 0; leg < LEGS; leg++) {
                if (pointBeneath(p, leg) == point) {
                    return leg % 2 == 0 ? 1 : -1;
                }
            }
            return 0;
        }

        void laySlopes(int p, int[] slopes) {
            for (int point = 0; point < points && point < slopes.length; point++) {
                slopes[point] = slope(p, point);
            }
        }

        /** Puts its lie into a row from a place on, if the row has room for it. */
        void store(int[] into, int from) {
            if (from >= 0 && from <= into.length - LIE) {
                System.arraycopy(heights, 0, into, from, MOST_POINTS);
                System.arraycopy(shorts, 0, into, from + MOST_POINTS, LEGS);
            }
        }

        void restore(int[] out, int from) {
            if (from >= 0 && from <= out.length - LIE) {
                System.arraycopy(out, from, heights, 0, MOST_POINTS);
                System.arraycopy(out, from + MOST_POINTS, shorts, 0, LEGS);
            }
        }
    }

    /** Reads the TAPE as a GARDEN. A part that answers false leaves the TAPE at its FAULT. */
    private static final class GardenReader {
        private static final String TABLE_LETTERS = "awxyz";
        private static final int[] TABLE_LEAST = {1, 0, 0, 0, 0};
        private static final int[] TABLE_MOST = {11, 99, 99, 99, 99};
        private static final String CARD_LETTERS = "tn";
        private static final int[] CARD_LEAST = {1, 0};
        private static final int[] CARD_MOST = {20, 9};
        private static final int DIGITS = 2;
        private static final int FEWEST_POINTS = 4;

        /** The numbers of the ITEMS of one CLAUSE, by their letters. */
        private final int[] items = new int[5];
        private boolean hasTable = false;

        /** The FAULT, or NONE. */
        int read(Tape tape, Garden into) {
            into.clear();
            hasTable = false;
            tape.at = 0;
            boolean more = true;
            for (int i = 0; more && i <= Tape.ROOM; i++) {
                if (!clause(tape, into)) {
                    return tape.at;
                }
                more = tape.pass(';');
            }
            if (tape.sign() != Tape.OVER) {
                return tape.at;
            }
            return into.points == 0 || into.angle >= into.points / 2 ? tape.length : NONE;
        }

        private boolean clause(Tape tape, Garden into) {
            int letter = tape.sign();
            if (letter == 'g' && into.points == 0) {
                tape.at++;
                return ground(tape, into);
            }
            if (letter == 't' && !hasTable) {
                tape.at++;
                hasTable = true;
                return table(tape, into);
            }
            if (letter == 'c' && into.sorts >= 0 && into.sorts < MOST_SORTS) {
                tape.at++;
                return cardSort(tape, into);
            }
            return false;
        }

        private boolean ground(Tape tape, Garden into) {
            for (int i = 0; i < MOST_POINTS; i++) {
                tape.sign();
                int told = tape.number(DIGITS);
                if (told == NONE) {
                    return false;
                }
                into.heights[i] = told;
                into.points = i + 1;
                boolean ends = tape.sign() != ',';
                if (ends) {
                    return into.points >= FEWEST_POINTS && into.points % 2 == 0;
                }
                if (into.points < MOST_POINTS) {
                    tape.at++;
                }
            }
            return false;
        }

        private boolean table(Tape tape, Garden into) {
            Arrays.fill(items, 0);
            items[0] = 1;
            if (!readItems(tape, TABLE_LETTERS, TABLE_LEAST, TABLE_MOST)) {
                return false;
            }
            into.angle = items[0];
            System.arraycopy(items, 1, into.shorts, 0, LEGS);
            return true;
        }

        private boolean cardSort(Tape tape, Garden into) {
            int sort = into.sorts;
            items[0] = 1;
            items[1] = 1;
            if (sort < 0 || sort >= MOST_SORTS || !readItems(tape, CARD_LETTERS, CARD_LEAST, CARD_MOST)) {
                return false;
            }
            into.thick[sort] = items[0];
            into.many[sort] = items[1];
            into.sorts = sort + 1;
            return true;
        }

        /** Goes on till a sign that is no letter of these: what it is, the CLAUSE's end has to tell. */
        private boolean readItems(Tape tape, String letters, int[] least, int[] most) {
            int told = 0;
            for (int i = 0; i <= letters.length(); i++) {
                int letter = tape.sign();
                int k = letter == Tape.OVER ? NONE : letters.indexOf((char) letter);
                if (k < 0 || k >= least.length || k >= most.length || k >= items.length) {
                    return true;
                }
                if ((told >> k & 1) != 0) {
                    return false;
                }
                told |= 1 << k;
                tape.at++;
                tape.sign();
                int value = tape.number(DIGITS);
                if (value == NONE) {
                    return false;
                }
                if (value < least[k] || value > most[k]) {
                    tape.at--;
                    return false;
                }
                items[k] = value;
            }
            return true;
        }
    }

    /**
     * Reads the TAPE as a WISH, into code that has what a sign joins ahead of the sign. A part that
     * answers false leaves the TAPE at its FAULT.
     */
    private static final class WishReader {
        private static final int DEEPEST = 6;
        private static final int DIGITS = 4;

        /** Numbers as they are, signs and letters below 0; never more words than the TAPE has bytes. */
        final int[] code = new int[Tape.ROOM];
        int size = 0;

        /** The FAULT, or NONE. */
        int read(Tape tape) {
            size = 0;
            tape.at = 0;
            boolean more = true;
            for (int i = 0; more && i <= Tape.ROOM; i++) {
                if (!clause(tape)) {
                    return tape.at;
                }
                more = tape.pass(';');
            }
            return tape.sign() == Tape.OVER ? NONE : tape.at;
        }

        private void put(int word) {
            if (size >= 0 && size < code.length) {
                code[size] = word;
                size++;
            }
        }

        private boolean clause(Tape tape) {
            if (!tape.pass('y') || !tape.pass(':')) {
                return false;
            }
            int sign = tape.sign();
            boolean begun = sign != '!' && sign != '(';
            if (begun) {
                if (!sum(tape, 0)) {
                    return false;
                }
                if (!isComparing(tape.sign())) {
                    put(Wish.ANSWER);
                    return true;
                }
            }
            if (!condition(tape, 0, begun) || !tape.pass('?')) {
                return false;
            }
            put(Wish.UNLESS);
            int target = size;
            put(0);
            if (!sum(tape, 0)) {
                return false;
            }
            put(Wish.ANSWER);
            if (target >= 0 && target < code.length) {
                code[target] = size;
            }
            return true;
        }

        private static boolean isComparing(int sign) {
            return sign == '=' || sign == '<' || sign == '>';
        }

        /** begun: the first SUM of its first UNIT has been read. */
        private boolean condition(Tape tape, int depth, boolean begun) {
            boolean joinsTruth = false;
            boolean joinsUnit = false;
            for (int i = 0; i < Tape.ROOM; i++) {
                if (!unit(tape, depth, begun && i == 0)) {
                    return false;
                }
                if (joinsUnit) {
                    put(-'&');
                }
                int sign = tape.sign();
                joinsUnit = sign == '&';
                if (!joinsUnit) {
                    if (joinsTruth) {
                        put(-'|');
                    }
                    joinsTruth = sign == '|';
                    if (!joinsTruth) {
                        return true;
                    }
                }
                tape.at++;
            }
            return false;
        }

        private boolean unit(Tape tape, int depth, boolean begun) {
            int sign = tape.sign();
            if (!begun && (sign == '!' || sign == '(')) {
                if (depth >= DEEPEST) {
                    return false;
                }
                tape.at++;
                if (sign == '(') {
                    return condition(tape, depth + 1, false) && tape.pass(')');
                }
                if (!unit(tape, depth + 1, false)) {
                    return false;
                }
                put(-'!');
                return true;
            }
            if (!begun && !sum(tape, depth)) {
                return false;
            }
            int comparing = tape.sign();
            if (!isComparing(comparing)) {
                return false;
            }
            tape.at++;
            if (!sum(tape, depth)) {
                return false;
            }
            put(-comparing);
            return true;
        }

        private boolean sum(Tape tape, int depth) {
            int adding = 0;
            int timing = 0;
            for (int i = 0; i < Tape.ROOM; i++) {
                if (!atom(tape, depth)) {
                    return false;
                }
                if (timing != 0) {
                    put(-timing);
                }
                int sign = tape.sign();
                timing = sign == '*' || sign == '/' ? sign : 0;
                if (timing == 0) {
                    if (adding != 0) {
                        put(-adding);
                    }
                    adding = sign == '+' || sign == '-' ? sign : 0;
                    if (adding == 0) {
                        return true;
                    }
                }
                tape.at++;
            }
            return false;
        }

        private boolean atom(Tape tape, int depth) {
            int sign = tape.sign();
            if (sign == '[') {
                if (depth >= DEEPEST) {
                    return false;
                }
                tape.at++;
                return sum(tape, depth + 1) && tape.pass(']');
            }
            if (sign == 'g' || sign == 'p' || sign == 't' || sign == 's' || sign == 'n') {
                tape.at++;
                put(-sign);
                return true;
            }
            int value = tape.number(DIGITS);
            if (value == NONE) {
                return false;
            }
            put(value);
            return true;
        }
    }

    /** A WISH as code, and how it is reckoned. */
    private static final class Wish {
        /** What was reckoned last is the WORTH. */
        static final int ANSWER = -';';
        /** The next word tells where to go on if what was reckoned last doesn't hold. */
        static final int UNLESS = -'?';
        private static final int FARTHEST = 1000000;
        /** Two numbers open on each of seven levels, three in a comparison, one more, make 18. */
        private static final int STACK = 24;

        private final int[] code = new int[Tape.ROOM];
        private int size = 0;
        private final int[] stack = new int[STACK];
        private int top = 0;

        void take(int[] words, int count) {
            size = Math.max(0, Math.min(count, Math.min(words.length, code.length)));
            System.arraycopy(words, 0, code, 0, size);
        }

        int worth(int g, int p, int t, int s, int n) {
            top = 0;
            int at = 0;
            for (int steps = 0; steps < size && at >= 0 && at < size; steps++) {
                int word = code[at];
                at++;
                if (word == ANSWER) {
                    return pop();
                }
                if (word == UNLESS) {
                    int target = at < size ? code[at] : size;
                    at = pop() == 0 ? target : at + 1;
                } else if (word >= 0) {
                    push(word);
                } else {
                    reckon(-word, g, p, t, s, n);
                }
            }
            return 0;
        }

        private void reckon(int sign, int g, int p, int t, int s, int n) {
            switch (sign) {
                case 'g':
                    push(g);
                    break;
                case 'p':
                    push(p);
                    break;
                case 't':
                    push(t);
                    break;
                case 's':
                    push(s);
                    break;
                case 'n':
                    push(n);
                    break;
                case '!':
                    push(pop() == 0 ? 1 : 0);
                    break;
                default:
                    int right = pop();
                    int left = pop();
                    push(joined(sign, left, right));
                    break;
            }
        }

        private static int joined(int sign, int left, int right) {
            switch (sign) {
                case '+':
                    return bounded((long) left + right);
                case '-':
                    return bounded((long) left - right);
                case '*':
                    return bounded((long) left * right);
                case '/':
                    return right == 0 ? 0 : bounded((long) left / right);
                case '=':
                    return left == right ? 1 : 0;
                case '<':
                    return left < right ? 1 : 0;
                case '>':
                    return left > right ? 1 : 0;
                case '&':
                    return left & right;
                default:
                    return left | right;
            }
        }

        private static int bounded(long value) {
            return (int) Math.max(-FARTHEST, Math.min(FARTHEST, value));
        }

        private void push(int value) {
            if (top >= 0 && top < stack.length) {
                stack[top] = value;
                top++;
            }
        }

        private int pop() {
            if (top <= 0 || top > stack.length) {
                return 0;
            }
            top--;
            return stack[top];
        }
    }

    /** The GAPS of all TURNINGS, and the places at which they are 0 or go through it. */
    private static final class Round {
        private final int[] whole = new int[MOST_POINTS];
        private int points = 0;
        /** What is taken from each GAP because legs are SHORT. */
        int lean = 0;

        void lay(Garden garden, int[] ground, int angle) {
            points = Math.max(0, Math.min(garden.points, whole.length));
            lean = garden.lean();
            for (int p = 0; p < points; p++) {
                whole[p] = garden.groundGap(ground, angle, p);
            }
        }

        /** Also one round on. */
        int gapAt(int p) {
            int q = p >= points ? p - points : p;
            return q >= 0 && q < points && q < whole.length ? whole[q] - lean : 0;
        }

        /** It STANDS at p or between p and the next one: never at more than one place of these. */
        boolean standsFrom(int p) {
            int here = gapAt(p);
            int there = gapAt(p + 1);
            return here == 0 || here > 0 && there < 0 || here < 0 && there > 0;
        }

        int standCount() {
            int stands = 0;
            for (int p = 0; p < points; p++) {
                if (standsFrom(p)) {
                    stands++;
                }
            }
            return stands;
        }

        /** From which TURNING the i-th of all STANDS is. */
        int standAt(int i) {
            int ahead = 0;
            for (int p = 0; p < points; p++) {
                if (standsFrom(p)) {
                    if (ahead == i) {
                        return p;
                    }
                    ahead++;
                }
            }
            return NONE;
        }

        int firstWithin(int from, int span) {
            for (int way = 0; way <= span && way < points; way++) {
                int p = from + way >= points ? from + way - points : from + way;
                if (standsFrom(p)) {
                    return gapAt(p) == 0 || way < span ? p : NONE;
                }
            }
            return NONE;
        }

        /** Of the place from p on: p (0), the fraction above (1), below (2). */
        int place(int p, int what) {
            int here = Math.abs(gapAt(p));
            if (what == 0) {
                return p;
            }
            if (here == 0) {
                return what == 1 ? 0 : 1;
            }
            int both = here + Math.abs(gapAt(p + 1));
            int shared = common(here, both);
            return shared == 0 ? NONE : (what == 1 ? here : both) / shared;
        }

        int turningsWith(int above) {
            int found = 0;
            for (int p = 0; p < points; p++) {
                if (gapAt(p) == above) {
                    found++;
                }
            }
            return found;
        }

        /** Goes round twice, as a run may go on over TURNING 0. */
        int longestRun(int sign) {
            int run = 0;
            int longest = 0;
            for (int p = 0; p < 2 * points; p++) {
                run = Integer.signum(gapAt(p)) == sign ? run + 1 : 0;
                longest = Math.max(longest, run);
            }
            return Math.min(longest, points);
        }
    }

    /** CARDS beneath legs: sorts 0 and 1 are tried in full, for 2 and 3 a table tells the best. */
    private static final class Cards {
        /** What nine cards of two sorts, each 20 THICK, make. */
        private static final int FARTHEST = 360;

        private final int[] few = new int[2 * FARTHEST + 1];
        private final int[] third = new int[2 * FARTHEST + 1];
        private final int[] fourth = new int[2 * FARTHEST + 1];
        private final int[] ways = new int[2 * FARTHEST + 1];
        private int far = 0;
        /** Only a new GARDEN has other cards. */
        boolean built = false;
        /** The net numbers that were found last. */
        final int[] net = new int[MOST_SORTS];

        private void build(Garden garden) {
            if (built) {
                return;
            }
            int most = garden.many[2];
            int mostFourth = garden.many[3];
            far = Math.min(FARTHEST, garden.thick[2] * most + garden.thick[3] * mostFourth);
            Arrays.fill(few, NONE);
            Arrays.fill(ways, 0);
            for (int a = -most; a <= most; a++) {
                for (int b = -mostFourth; b <= mostFourth; b++) {
                    note(garden.thick[2] * a + garden.thick[3] * b, a, b);
                }
            }
            built = true;
        }

        private void note(int sum, int a, int b) {
            int i = placeOf(sum);
            if (i == NONE) {
                return;
            }
            ways[i]++;
            int used = Math.abs(a) + Math.abs(b);
            if (few[i] == NONE || used < few[i]) {
                few[i] = used;
                third[i] = a;
                fourth[i] = b;
            }
        }

        private int placeOf(int sum) {
            return sum >= -far && sum <= far ? sum + far : NONE;
        }

        /** The fewest cards that make up for a GAP, their net numbers in net; or NONE. */
        int fewest(Garden garden, int above) {
            build(garden);
            int least = NONE;
            int most = garden.many[0];
            int mostSecond = garden.many[1];
            for (int a = -most; a <= most; a++) {
                for (int b = -mostSecond; b <= mostSecond; b++) {
                    int i = placeOf(-above - garden.thick[0] * a - garden.thick[1] * b);
                    if (i != NONE && few[i] != NONE) {
                        int used = Math.abs(a) + Math.abs(b) + few[i];
                        if (least == NONE || used < least) {
                            least = used;
                            net[0] = a;
                            net[1] = b;
                            net[2] = third[i];
                            net[3] = fourth[i];
                        }
                    }
                }
            }
            return least;
        }

        int rows(Garden garden, int above) {
            build(garden);
            int found = 0;
            int most = garden.many[0];
            int mostSecond = garden.many[1];
            for (int a = -most; a <= most; a++) {
                for (int b = -mostSecond; b <= mostSecond; b++) {
                    int i = placeOf(-above - garden.thick[0] * a - garden.thick[1] * b);
                    if (i != NONE) {
                        found += ways[i];
                    }
                }
            }
            return found;
        }
    }

    /** How it rocked, and the range of a number by which it would have rocked so. */
    private static final class Rocked {
        private static final int ROOM = 20;

        private final int[] turnings = new int[ROOM];
        private final int[] signs = new int[ROOM];
        int size = 0;
        private int least = 0;
        private int greatest = MOST;

        int add(int p, int sign) {
            if (size < 0 || size >= ROOM) {
                return NONE;
            }
            turnings[size] = p;
            signs[size] = sign;
            size++;
            return size;
        }

        int turningOf(int i) {
            return i >= 0 && i < size && i < ROOM ? turnings[i] : 0;
        }

        int signOf(int i) {
            return i >= 0 && i < size && i < ROOM ? signs[i] : 0;
        }

        void startRange() {
            least = 0;
            greatest = MOST;
        }

        /** Keeps the numbers v with which base + slope * v has this sign: always a range. */
        void narrow(int base, int slope, int sign) {
            if (slope == 0) {
                if (Integer.signum(base) != sign) {
                    greatest = NONE;
                }
                return;
            }
            int even = -base * slope;
            if (sign == 0) {
                least = Math.max(least, even);
                greatest = Math.min(greatest, even);
            } else if (sign == slope) {
                least = Math.max(least, even + 1);
            } else {
                greatest = Math.min(greatest, even - 1);
            }
        }

        /** How many (0), the least (1), the greatest (2). */
        int rangeAnswer(int what) {
            if (what == 0) {
                return Math.max(0, greatest - least + 1);
            }
            if (greatest < least) {
                return NONE;
            }
            return what == 1 ? least : greatest;
        }
    }

    /** The lies ahead of the latest ACTS, in a ring. */
    private static final class Acts {
        private static final int ROOM = 40;

        private final int[] lies = new int[ROOM * Garden.LIE];
        private int next = 0;
        int size = 0;

        void keep(Garden garden) {
            garden.store(lies, next * Garden.LIE);
            next = next == ROOM - 1 ? 0 : next + 1;
            size = Math.min(ROOM, size + 1);
        }

        boolean takeBack(Garden garden) {
            if (size <= 0) {
                return false;
            }
            next = next == 0 ? ROOM - 1 : next - 1;
            size--;
            garden.restore(lies, next * Garden.LIE);
            return true;
        }

        void forget() {
            next = 0;
            size = 0;
        }
    }

    /** Draws by a seed. */
    private static final class Dice {
        long x = 0;

        int draw(int m) {
            x = x * 6364136223846793005L + 1442695040888963407L;
            return m > 0 ? (int) ((x >>> 33) % m) : 0;
        }
    }
}
