import java.util.Arrays;

/** A mind for darts: board, rules, exact sums, a race, finishes, legs, texts, racks and an image. */
public final class DartMind {
    public static final int NONE = -1, BAD = -2, STATE = -3, FULL = -4;

    private static final int BUST = -5, EMPTY = -5;
    private static final int MISSING = -11, NO_PLACE = -12, NO_SIZE = -14, WRONG_KIND = -16;
    private static final int FAULTY = -100;
    private static final long NO = -9000000000000000000L;

    private static final int OUTSIDE = 0, OUTER = 61, BULL = 62, SPOTS = 63;
    private static final int KIND_SPOT = 0, KIND_SINGLE = 1, KIND_DOUBLE = 2, KIND_TREBLE = 3,
            KIND_BULL = 4, KIND_OUTER = 5;
    private static final int STRAIGHT = 0, BY_DOUBLE = 1, MASTER = 2;
    private static final int TOP_REST = 501, TOP_FINISH = 180, TOP_RACE = 24;
    private static final int TOP_WEIGHT = 200, ALL_WEIGHT = 1000, MOST_FALLS = 5;
    private static final int VISIT = 3, MOST_MINDS = 12;
    private static final int RACKS = 4, TOP_SIZE = 20;

    private final Rules rules;
    private final Falls falls;
    private final Mind[] minds;
    private final Race race;
    private final Finishes finishes;
    private final Leg leg;
    private final Leg picture;
    private boolean pictured;
    private final Tape tape;
    private final Paper paper;
    private final Rack[] racks;
    private final int[] row;

    public DartMind() {
        Rules newRules = new Rules();
        Falls newFalls = new Falls();
        Mind[] newMinds = {new Mind(newRules, newFalls), new Mind(newRules, newFalls)};
        rules = newRules;
        falls = newFalls;
        minds = newMinds;
        race = new Race(newRules, newFalls, newMinds);
        finishes = new Finishes(newRules);
        leg = new Leg();
        picture = new Leg();
        tape = new Tape();
        paper = new Paper();
        racks = new Rack[] {new Rack(), new Rack(), new Rack(), new Rack()};
        row = new int[TOP_SIZE];
    }

    // ---- the board and the hands ----

    public int spot(int spot, int what) {
        if (!isSpot(spot)) {
            return NONE;
        }
        switch (what) {
            case 0: return Board.scoreOf(spot);
            case 1: return Board.kindOf(spot);
            case 2: return Board.numberBeside(Board.numberOf(spot), 1);
            case 3: return Board.numberBeside(Board.numberOf(spot), -1);
            default: return NONE;
        }
    }

    public int under(int spot, int kind) {
        if (!isSpot(spot) || !isKind(kind)) {
            return NONE;
        }
        return Board.isOfKind(spot, kind) ? 1 : 0;
    }

    public int hand(int player, int what, int v) {
        if (!isPlayer(player) || what < 0 || what > 1) {
            return NONE;
        }
        if (v < 0 || v > TOP_WEIGHT) {
            return BAD;
        }
        Player one = leg.players[player];
        int was = what == 0 ? one.side : one.ring;
        if (what == 0) {
            one.side = v;
        } else {
            one.ring = v;
        }
        renewMinds();
        return was;
    }

    public int fall(int player, int aim, int i, int what) {
        if (!isPlayer(player) || !isAim(aim) || i < -1 || i >= falls.counts[aim]) {
            return NONE;
        }
        if (i == -1) {
            return falls.counts[aim];
        }
        if (what < 0 || what > 1) {
            return NONE;
        }
        int at = aim * MOST_FALLS + i;
        return what == 0 ? falls.spots[at] : minds[player].weights[at];
    }

    public int out(int out) {
        if (out < STRAIGHT || out > MASTER) {
            return NONE;
        }
        if (out != STRAIGHT && leg.hasRestOfOne()) {
            return STATE;
        }
        int was = leg.out;
        leg.out = out;
        renewMinds();
        return was;
    }

    public int falls(int rest, int spot) {
        if (!isSpot(spot)) {
            return NONE;
        }
        if (rest < 1 || rest > TOP_REST) {
            return BAD;
        }
        return rules.restBehind(rest, spot);
    }

    // ---- the least darts, the chances, the race ----

    public long darts(int player, int rest) {
        if (!isPlayer(player) || !isDartsRest(rest)) {
            return NO;
        }
        return bitsOfDouble(minds[player].dartsAt(rest));
    }

    public int dartsCut(int player, int rest) {
        if (!isPlayer(player) || !isDartsRest(rest)) {
            return NONE;
        }
        return bitsOfFloat((float) minds[player].dartsAt(rest));
    }

    public int thousandths(int player, int rest) {
        if (!isPlayer(player) || !isDartsRest(rest)) {
            return NONE;
        }
        return (int) (minds[player].dartsAt(rest) * 1000.0);
    }

    public int aim(int player, int rest) {
        if (!isPlayer(player) || !isRestUpTo(rest, TOP_REST)) {
            return NONE;
        }
        return minds[player].aimAt(rest);
    }

    public long chance(int player, int rest, int k) {
        if (!isPlayer(player) || !isRestUpTo(rest, TOP_FINISH) || k < 0 || k > VISIT) {
            return NO;
        }
        return bitsOfDouble(minds[player].chanceAt(rest, k));
    }

    public int chanceAim(int player, int rest, int k) {
        if (!isPlayer(player) || !isRestUpTo(rest, TOP_FINISH) || k < 1 || k > VISIT) {
            return NONE;
        }
        return minds[player].chanceAimAt(rest, k);
    }

    public long race(int r, int q, int who) {
        if (!isRace(r, q) || !isPlayer(who)) {
            return NO;
        }
        return bitsOfDouble(race.wonBy(who, r, q));
    }

    public int raceAim(int r, int q, int who) {
        if (!isRace(r, q) || !isPlayer(who)) {
            return NONE;
        }
        return race.aimOf(who, r, q);
    }

    public int settled(int r, int q) {
        if (!isRace(r, q)) {
            return NONE;
        }
        return race.isStill(r, q) ? 1 : 0;
    }

    public int percent(int r, int q) {
        if (!isRace(r, q)) {
            return NONE;
        }
        float hundredths = (float) (race.wonBy(0, r, q) * 100.0);
        return (int) hundredths;
    }

    // ---- the finishes ----

    public int ways(int rest, int k) {
        if (!isRestUpTo(rest, TOP_FINISH) || k < 0 || k > VISIT) {
            return NONE;
        }
        return k == 0 ? finishes.countOfAll(rest) : finishes.countBy(rest, k);
    }

    public int way(int rest, int i, int j) {
        if (!isRestUpTo(rest, TOP_FINISH) || !finishes.find(rest, i)) {
            return NONE;
        }
        if (j == -1) {
            return finishes.size;
        }
        return j < 0 || j >= finishes.size ? NONE : finishes.row[j];
    }

    public int spell(int rest, int i) {
        if (!isRestUpTo(rest, TOP_FINISH) || !finishes.find(rest, i)) {
            return NONE;
        }
        paper.spellRow(finishes.row, finishes.size);
        return paper.length;
    }

    // ---- the leg ----

    public int start(int start) {
        if (start < 2 || start > TOP_REST) {
            return BAD;
        }
        int was = leg.start;
        leg.start = start;
        leg.begin();
        return was;
    }

    public int thrown(int spot) {
        return isSpot(spot) ? throwUpon(spot) : NONE;
    }

    public int throwsAt(int aim) {
        return isAim(aim) ? throwByDraw(aim) : NONE;
    }

    public int minds(int n) {
        if (n < 1 || n > MOST_MINDS) {
            return BAD;
        }
        int legsBefore = leg.legsOfBoth();
        for (int i = 0; i < n; i++) {
            throwByDraw(minds[leg.turn].aimAt(leg.restOfThrower()));
        }
        return leg.legsOfBoth() - legsBefore;
    }

    public int seed(int v) {
        int was = leg.seed;
        leg.seed = v;
        return was;
    }

    public int average(int player) {
        if (!isPlayer(player)) {
            return NONE;
        }
        Player one = leg.players[player];
        if (one.thrown <= 0) {
            return bitsOfFloat(0.0f);
        }
        return bitsOfFloat(3.0f * (float) one.points / (float) one.thrown);
    }

    public int told(int what) {
        if (what >= 10 && what <= 15) {
            return leg.players[0].tell(what - 10);
        }
        if (what >= 20 && what <= 25) {
            return leg.players[1].tell(what - 20);
        }
        switch (what) {
            case 0: return leg.turn;
            case 1: return leg.left;
            case 2: return leg.began;
            case 3: return leg.start;
            case 4: return leg.out;
            case 5: return leg.restAtVisit;
            case 6: return leg.seed;
            case 7: return tape.length;
            case 8: return paper.length;
            default: return NONE;
        }
    }

    // ---- the texts ----

    public int feed(int letter) {
        if (letter < 1 || letter > 127) {
            return BAD;
        }
        return tape.append(letter) ? tape.length : FULL;
    }

    public int clear() {
        int had = tape.length;
        tape.length = 0;
        return had;
    }

    public int judge(int rest) {
        if (!isRestUpTo(rest, TOP_REST)) {
            return BAD;
        }
        int fault = tape.read();
        if (fault != NONE) {
            return FAULTY - fault;
        }
        return rules.verdict(tape.spots, tape.count, rest);
    }

    public int play() {
        int fault = tape.read();
        if (fault != NONE) {
            return FAULTY - fault;
        }
        int legsBefore = leg.legsOfBoth();
        for (int i = 0; i < tape.count; i++) {
            throwUpon(tape.spots[i]);
        }
        return leg.legsOfBoth() - legsBefore;
    }

    public int paper(int i) {
        return i < 0 || i >= paper.length ? NONE : paper.bytes[i];
    }

    // ---- the racks ----

    public int rack(int rack, int kind, int n) {
        if (!isRack(rack) || !isKind(kind)) {
            return NONE;
        }
        if (n > TOP_SIZE) {
            return BAD;
        }
        if (n < 0) {
            return NO_SIZE;
        }
        racks[rack].make(kind, n);
        return 1;
    }

    public int lays(int rack, int i, int spot) {
        if (!isRack(rack) || spot != NONE && !isSpot(spot)) {
            return NONE;
        }
        Rack one = racks[rack];
        if (one.isMissing()) {
            return MISSING;
        }
        if (i < 0 || i >= one.size) {
            return NO_PLACE;
        }
        if (spot != NONE && !Board.isOfKind(spot, one.kind)) {
            return WRONG_KIND;
        }
        one.places[i] = spot == NONE ? EMPTY : spot;
        return 1;
    }

    public int laid(int rack, int i) {
        if (!isRack(rack)) {
            return NONE;
        }
        Rack one = racks[rack];
        if (one.isMissing()) {
            return MISSING;
        }
        return i < 0 || i >= one.size ? NO_PLACE : one.places[i];
    }

    public int like(int rack, int other) {
        if (!isRack(rack) || !isRack(other)) {
            return NONE;
        }
        if (racks[other].isMissing()) {
            return MISSING;
        }
        racks[rack].become(racks[other]);
        return racks[rack].size;
    }

    public int judged(int rack, int i, int rest) {
        if (!isRack(rack)) {
            return NONE;
        }
        if (!isRestUpTo(rest, TOP_REST)) {
            return BAD;
        }
        Rack one = racks[rack];
        if (one.isMissing()) {
            return MISSING;
        }
        if (i < 0 || i > one.size) {
            return NO_PLACE;
        }
        return rules.verdict(row, one.gather(i, row), rest);
    }

    // ---- the image ----

    public int image() {
        picture.become(leg);
        pictured = true;
        return leg.legsOfBoth();
    }

    public int undo() {
        if (!pictured) {
            return STATE;
        }
        leg.become(picture);
        renewMinds();
        return leg.legsOfBoth();
    }

    // ---- what the calls above share ----

    private static boolean isSpot(int spot) {
        return spot >= 0 && spot < SPOTS;
    }

    private static boolean isAim(int aim) {
        return aim >= 1 && aim < SPOTS;
    }

    private static boolean isKind(int kind) {
        return kind >= KIND_SPOT && kind <= KIND_OUTER;
    }

    private static boolean isPlayer(int player) {
        return player == 0 || player == 1;
    }

    private static boolean isRack(int rack) {
        return rack >= 0 && rack < RACKS;
    }

    private boolean isRestUpTo(int rest, int top) {
        return rest >= rules.leastRest() && rest <= top;
    }

    private boolean isDartsRest(int rest) {
        return rest == 0 || isRestUpTo(rest, TOP_REST);
    }

    private boolean isRace(int r, int q) {
        return isRestUpTo(r, TOP_RACE) && isRestUpTo(q, TOP_RACE);
    }

    /** Brings all that was worked out in line with the hands and OUT as they are now. */
    private void renewMinds() {
        boolean otherOut = rules.become(leg.out);
        boolean other0 = minds[0].become(leg.players[0].side, leg.players[0].ring);
        boolean other1 = minds[1].become(leg.players[1].side, leg.players[1].ring);
        if (otherOut) {
            finishes.forget();
        }
        if (otherOut || other0) {
            minds[0].forget();
        }
        if (otherOut || other1) {
            minds[1].forget();
        }
        if (otherOut || other0 || other1) {
            race.forget();
        }
    }

    private int throwUpon(int spot) {
        return leg.land(rules.restBehind(leg.restOfThrower(), spot));
    }

    private int throwByDraw(int aim) {
        int spot = minds[leg.turn].fallenUpon(aim, leg.draw());
        throwUpon(spot);
        return spot;
    }

    private static long bitsOfDouble(double x) {
        long bits = bitsOfSize(x < 0.0 ? -x : x, 52, 1023);
        return x < 0.0 ? bits | 1L << 63 : bits;
    }

    private static int bitsOfFloat(float x) {
        int bits = (int) bitsOfSize(x < 0.0f ? -x : x, 23, 127);
        return x < 0.0f ? bits | 1 << 31 : bits;
    }

    /** Exponent and fraction by halving and doubling, which are exact: Double and Float aren't there to ask. */
    private static long bitsOfSize(double size, int fraction, int bias) {
        if (size == 0.0) {
            return 0L;
        }
        double m = size;
        int exponent = bias;
        for (; exponent < 2 * bias && m >= 2.0; exponent++) {
            m = m / 2.0;
        }
        for (; exponent > 1 && m < 1.0; exponent--) {
            m = m * 2.0;
        }
        long one = 1L << fraction;
        return ((long) exponent << fraction) + (long) (m * (double) one) - one;
    }

    /** SPOTS, their KINDS and THE RING of numbers. */
    private static final class Board {
        private static final int[] RING = {20, 1, 18, 4, 13, 6, 10, 15, 2, 17, 3, 19, 7, 16, 8, 11, 14, 9, 12, 5};

        static int kindOf(int spot) {
            if (spot <= OUTSIDE) {
                return KIND_SPOT;
            }
            if (spot == OUTER) {
                return KIND_OUTER;
            }
            return spot == BULL ? KIND_BULL : (spot - 1) / 20 + 1;
        }

        /** The number of a SINGLE, DOUBLE, TREBLE; else 0. */
        static int numberOf(int spot) {
            return spot < 1 || spot >= OUTER ? 0 : (spot - 1) % 20 + 1;
        }

        static int scoreOf(int spot) {
            if (spot == OUTER) {
                return 25;
            }
            return spot == BULL ? 50 : numberOf(spot) * kindOf(spot);
        }

        static boolean isOfKind(int spot, int kind) {
            int own = kindOf(spot);
            return own == kind || kind == KIND_SPOT || kindAbove(own) == kind;
        }

        static int kindAbove(int kind) {
            if (kind == KIND_BULL) {
                return KIND_DOUBLE;
            }
            return kind == KIND_OUTER ? KIND_SINGLE : KIND_SPOT;
        }

        /** The number so many steps to the RIGHT; 0 of 0. */
        static int numberBeside(int number, int steps) {
            int length = RING.length;
            for (int i = 0; i < length; i++) {
                if (RING[i] == number) {
                    return RING[Math.floorMod(i + steps, length)];
                }
            }
            return 0;
        }
    }

    /** OUT, and what it makes of a DART. */
    private static final class Rules {
        private final int[] scores = new int[SPOTS];
        private final boolean[] ending = new boolean[SPOTS];
        private int out = BY_DOUBLE;

        Rules() {
            for (int spot = 0; spot < SPOTS; spot++) {
                scores[spot] = Board.scoreOf(spot);
            }
            markEnding();
        }

        /** Whether OUT is another now. */
        boolean become(int newOut) {
            if (newOut == out) {
                return false;
            }
            out = newOut;
            markEnding();
            return true;
        }

        private void markEnding() {
            for (int spot = 0; spot < SPOTS; spot++) {
                ending[spot] = out == STRAIGHT || Board.isOfKind(spot, KIND_DOUBLE)
                        || out == MASTER && Board.isOfKind(spot, KIND_TREBLE);
            }
        }

        int leastRest() {
            return out == STRAIGHT ? 1 : 2;
        }

        /** The next rest, or BUST. */
        int restBehind(int rest, int spot) {
            int next = rest - scores[spot];
            if (next < 0 || next == 0 && !ending[spot] || next == 1 && out != STRAIGHT) {
                return BUST;
            }
            return next;
        }

        /** For each SPOT the next rest, or BUST. */
        void restsBehind(int rest, int[] nexts) {
            for (int spot = 0; spot < SPOTS; spot++) {
                nexts[spot] = restBehind(rest, spot);
            }
        }

        /** The first so many SPOTS of a row JUDGED from a rest on. */
        int verdict(int[] spots, int count, int rest) {
            int now = rest;
            for (int i = 0; i < count; i++) {
                now = restBehind(now, spots[i]);
                if (now == BUST) {
                    return 100 + i;
                }
                if (now == 0) {
                    return i == count - 1 ? i : 200 + i;
                }
            }
            return 1000 + now;
        }
    }

    /** The FALLS of each AIM from aim * MOST_FALLS on: SPOTS, and how many times SIDE and R go into the WEIGHT. */
    private static final class Falls {
        final int[] counts = new int[SPOTS];
        final int[] spots = new int[SPOTS * MOST_FALLS];
        private final int[] sides = new int[SPOTS * MOST_FALLS];
        private final int[] rings = new int[SPOTS * MOST_FALLS];

        Falls() {
            for (int n = 1; n <= 20; n++) {
                addBesides(n, 0);
                add(n, n + 40, 0, 1);
                add(n, n + 20, 0, 1);
                addBesides(n, 20);
                add(n + 20, n, 0, 1);
                add(n + 20, OUTSIDE, 0, 1);
                addBesides(n, 40);
                add(n + 40, n, 0, 2);
            }
            add(OUTER, OUTER, 0, 0);
            add(OUTER, BULL, 0, 1);
            add(OUTER, 6, 1, 0);
            add(OUTER, 11, 1, 0);
            add(OUTER, 20, 0, 1);
            add(BULL, BULL, 0, 0);
            add(BULL, OUTER, 2, 2);
        }

        private void addBesides(int number, int below) {
            int aim = number + below;
            add(aim, aim, 0, 0);
            add(aim, Board.numberBeside(number, -1) + below, 1, 0);
            add(aim, Board.numberBeside(number, 1) + below, 1, 0);
        }

        private void add(int aim, int spot, int timesSide, int timesRing) {
            int at = aim * MOST_FALLS + counts[aim];
            spots[at] = spot;
            sides[at] = timesSide;
            rings[at] = timesRing;
            counts[aim]++;
        }

        void fillWeights(int side, int ring, int[] weights) {
            for (int aim = 1; aim < SPOTS; aim++) {
                int first = aim * MOST_FALLS;
                int itself = ALL_WEIGHT;
                for (int at = first + 1; at < first + counts[aim]; at++) {
                    weights[at] = sides[at] * side + rings[at] * ring;
                    itself -= weights[at];
                }
                weights[first] = itself;
            }
        }
    }

    /** What a PLAYER's hand makes of each AIM: WEIGHTS, and DARTS and CHANCES, worked out upward as they are asked. */
    private static final class Mind {
        private final Rules rules;
        private final Falls falls;
        private int side = 60;
        private int ring = 80;
        final int[] weights = new int[SPOTS * MOST_FALLS];
        final double[] odds = new double[SPOTS * MOST_FALLS];
        private final int[] nexts = new int[SPOTS];
        private final double[] darts = new double[TOP_REST + 1];
        private final int[] aims = new int[TOP_REST + 1];
        private int dartsKnown;
        private final double[][] chances = new double[VISIT + 1][TOP_FINISH + 1];
        private final int[][] chanceAims = new int[VISIT + 1][TOP_FINISH + 1];
        private int chancesKnown;

        Mind(Rules rules, Falls falls) {
            this.rules = rules;
            this.falls = falls;
            fillOdds();
            // At the next rest 0 any CHANCE is 1.0.
            for (int k = 0; k <= VISIT; k++) {
                chances[k][0] = 1.0;
            }
            forget();
        }

        /** Whether the hand is another now. */
        boolean become(int newSide, int newRing) {
            if (newSide == side && newRing == ring) {
                return false;
            }
            side = newSide;
            ring = newRing;
            fillOdds();
            return true;
        }

        private void fillOdds() {
            falls.fillWeights(side, ring, weights);
            for (int at = 0; at < weights.length; at++) {
                odds[at] = (double) weights[at] / 1000.0;
            }
        }

        void forget() {
            dartsKnown = rules.leastRest() - 1;
            chancesKnown = rules.leastRest() - 1;
        }

        double dartsAt(int rest) {
            learnDarts(rest);
            return darts[rest];
        }

        int aimAt(int rest) {
            learnDarts(rest);
            return aims[rest];
        }

        private void learnDarts(int rest) {
            for (int r = dartsKnown + 1; r <= rest; r++) {
                rules.restsBehind(r, nexts);
                chooseAim(r);
                dartsKnown = r;
            }
        }

        private void chooseAim(int rest) {
            double least = 0.0;
            int best = 0;
            for (int aim = 1; aim < SPOTS; aim++) {
                double value = dartsBy(aim);
                if (value > 0.0 && (best == 0 || value < least)) {
                    least = value;
                    best = aim;
                }
            }
            darts[rest] = least;
            aims[rest] = best;
        }

        /** An AIM's value at the rest of the nexts; 0.0 if there is none (all others are 1.0 or above). */
        private double dartsBy(int aim) {
            double sum = 1.0;
            int staying = 0;
            int first = aim * MOST_FALLS;
            for (int at = first; at < first + falls.counts[aim]; at++) {
                int spot = falls.spots[at];
                int next = nexts[spot];
                if (next == BUST || spot == OUTSIDE) {
                    staying += weights[at];
                } else {
                    sum = sum + odds[at] * darts[next];
                }
            }
            if (staying >= ALL_WEIGHT) {
                return 0.0;
            }
            return sum / ((double) (ALL_WEIGHT - staying) / 1000.0);
        }

        double chanceAt(int rest, int k) {
            learnChances(rest);
            return chances[k][rest];
        }

        int chanceAimAt(int rest, int k) {
            learnChances(rest);
            return chanceAims[k][rest];
        }

        private void learnChances(int rest) {
            for (int r = chancesKnown + 1; r <= rest; r++) {
                rules.restsBehind(r, nexts);
                for (int k = 1; k <= VISIT; k++) {
                    chooseChance(r, k);
                }
                chancesKnown = r;
            }
        }

        private void chooseChance(int rest, int k) {
            double greatest = chanceBy(1, k - 1);
            int best = 1;
            for (int aim = 2; aim < SPOTS; aim++) {
                double value = chanceBy(aim, k - 1);
                if (value > greatest) {
                    greatest = value;
                    best = aim;
                }
            }
            chances[k][rest] = greatest;
            chanceAims[k][rest] = best;
        }

        private double chanceBy(int aim, int dartsBehind) {
            double sum = 0.0;
            int first = aim * MOST_FALLS;
            for (int at = first; at < first + falls.counts[aim]; at++) {
                int next = nexts[falls.spots[at]];
                if (next != BUST) {
                    sum = sum + odds[at] * chances[dartsBehind][next];
                }
            }
            return sum;
        }

        /** The SPOT upon which a dart at an AIM falls by a drawn number (0 .. 999). */
        int fallenUpon(int aim, int drawn) {
            int first = aim * MOST_FALLS;
            int sum = 0;
            for (int at = first; at < first + falls.counts[aim]; at++) {
                sum += weights[at];
                if (sum > drawn) {
                    return falls.spots[at];
                }
            }
            return aim;
        }
    }

    /** THE RACE: X and Y of each pair of rests, worked out in rectangles as they are asked. */
    private static final class Race {
        private static final int WIDTH = TOP_RACE + 1;
        private static final int SWEEPS = 12;
        private static final int UNKNOWN = 0, MOVING = 1, STILL = 2;

        private final Rules rules;
        private final Falls falls;
        private final Mind[] minds;
        private final double[][] won = new double[2][WIDTH * WIDTH];
        private final int[][] aims = new int[2][WIDTH * WIDTH];
        private final int[] states = new int[WIDTH * WIDTH];
        // Of one pair of rests, by PLAYER and AIM: the value's parts that no sweep changes.
        private final double[][] sums = new double[2][SPOTS];
        private final double[][] stays = new double[2][SPOTS];
        private final int[] nexts = new int[SPOTS];

        Race(Rules rules, Falls falls, Mind[] minds) {
            this.rules = rules;
            this.falls = falls;
            this.minds = minds;
        }

        void forget() {
            Arrays.fill(states, UNKNOWN);
        }

        double wonBy(int who, int r, int q) {
            learn(r, q);
            return won[who][r * WIDTH + q];
        }

        int aimOf(int who, int r, int q) {
            learn(r, q);
            return aims[who][r * WIDTH + q];
        }

        boolean isStill(int r, int q) {
            learn(r, q);
            return states[r * WIDTH + q] == STILL;
        }

        private void learn(int r, int q) {
            if (states[r * WIDTH + q] != UNKNOWN) {
                return;
            }
            int least = rules.leastRest();
            for (int i = least; i <= r; i++) {
                for (int j = least; j <= q; j++) {
                    if (states[i * WIDTH + j] == UNKNOWN) {
                        sweep(i, j);
                    }
                }
            }
        }

        private void sweep(int r, int q) {
            weigh(0, r, q);
            weigh(1, r, q);
            double x = 0.5;
            double y = 0.5;
            boolean still = false;
            // A sweep that leaves both as they were is what each later one does, too.
            for (int i = 0; i < SWEEPS && !still; i++) {
                double newX = valueOf(0, bestAim(0, y), y);
                double newY = valueOf(1, bestAim(1, newX), newX);
                still = newX == x && newY == y;
                x = newX;
                y = newY;
            }
            int cell = r * WIDTH + q;
            won[0][cell] = x;
            won[1][cell] = y;
            aims[0][cell] = bestAim(0, y);
            aims[1][cell] = bestAim(1, x);
            states[cell] = still ? STILL : MOVING;
        }

        private void weigh(int who, int r, int q) {
            rules.restsBehind(who == 0 ? r : q, nexts);
            // Where the other's value stands behind a next rest: base + next * step.
            int base = who == 0 ? q : r * WIDTH;
            int step = who == 0 ? WIDTH : 1;
            for (int aim = 1; aim < SPOTS; aim++) {
                weighAim(who, aim, base, step);
            }
        }

        private void weighAim(int who, int aim, int base, int step) {
            Mind mind = minds[who];
            double[] others = won[1 - who];
            double sum = 0.0;
            int staying = 0;
            int first = aim * MOST_FALLS;
            for (int at = first; at < first + falls.counts[aim]; at++) {
                int spot = falls.spots[at];
                int next = nexts[spot];
                if (next == BUST || spot == OUTSIDE) {
                    staying += mind.weights[at];
                } else if (next == 0) {
                    sum = sum + mind.odds[at];
                } else {
                    sum = sum + mind.odds[at] * (1.0 - others[base + next * step]);
                }
            }
            sums[who][aim] = sum;
            stays[who][aim] = (double) staying / 1000.0;
        }

        private double valueOf(int who, int aim, double others) {
            return sums[who][aim] + stays[who][aim] * (1.0 - others);
        }

        private int bestAim(int who, double others) {
            int best = 1;
            double greatest = valueOf(who, 1, others);
            for (int aim = 2; aim < SPOTS; aim++) {
                double value = valueOf(who, aim, others);
                if (value > greatest) {
                    greatest = value;
                    best = aim;
                }
            }
            return best;
        }
    }

    /** FINISHES: how many by each count of SPOTS, and the i-th of a rest. */
    private static final class Finishes {
        private final Rules rules;
        private final int[][] counts = new int[VISIT + 1][TOP_FINISH + 1];
        private boolean known;
        // The FINISH that was found last.
        final int[] row = new int[VISIT];
        int size;

        Finishes(Rules rules) {
            this.rules = rules;
            // Nothing left to throw at 0 is the one way to have ended there.
            counts[0][0] = 1;
        }

        void forget() {
            known = false;
        }

        int countBy(int rest, int k) {
            learn();
            return counts[k][rest];
        }

        int countOfAll(int rest) {
            learn();
            return counts[1][rest] + counts[2][rest] + counts[3][rest];
        }

        private void learn() {
            if (known) {
                return;
            }
            for (int k = 1; k <= VISIT; k++) {
                for (int rest = 1; rest <= TOP_FINISH; rest++) {
                    counts[k][rest] = countFrom(rest, k);
                }
            }
            known = true;
        }

        private int countFrom(int rest, int k) {
            int count = 0;
            for (int spot = 1; spot < SPOTS; spot++) {
                count += countThrough(rest, spot, k);
            }
            return count;
        }

        /** How many rows of k SPOTS begin with this one. */
        private int countThrough(int rest, int spot, int k) {
            int next = rules.restBehind(rest, spot);
            return next == BUST ? 0 : counts[k - 1][next];
        }

        /** Puts the i-th FINISH of a rest into the row; false if there is none. */
        boolean find(int rest, int i) {
            if (i < 0 || i >= countOfAll(rest)) {
                return false;
            }
            int behind = i;
            int k = 1;
            while (k < VISIT && behind >= counts[k][rest]) {
                behind -= counts[k][rest];
                k++;
            }
            size = k;
            fillRow(rest, behind);
            return true;
        }

        private void fillRow(int rest, int i) {
            int now = rest;
            int behind = i;
            for (int place = 0; place < size; place++) {
                int spot = 1;
                int count = countThrough(now, spot, size - place);
                while (spot < BULL && behind >= count) {
                    behind -= count;
                    spot++;
                    count = countThrough(now, spot, size - place);
                }
                row[place] = spot;
                now = rules.restBehind(now, spot);
            }
        }
    }

    /** A PLAYER's hand and standing. */
    private static final class Player {
        int side = 60;
        int ring = 80;
        int rest;
        int legs;
        int thrown;
        int points;

        void become(Player other) {
            side = other.side;
            ring = other.ring;
            rest = other.rest;
            legs = other.legs;
            thrown = other.thrown;
            points = other.points;
        }

        int tell(int what) {
            switch (what) {
                case 0: return rest;
                case 1: return legs;
                case 2: return thrown;
                case 3: return points;
                case 4: return side;
                case 5: return ring;
                default: return NONE;
            }
        }
    }

    /** THE LEG, and all else that THE IMAGE holds. */
    private static final class Leg {
        final Player[] players = {new Player(), new Player()};
        int out = BY_DOUBLE;
        int start = 301;
        int began;
        int turn;
        int left;
        int restAtVisit;
        int seed = 1;

        Leg() {
            begin();
        }

        void become(Leg other) {
            players[0].become(other.players[0]);
            players[1].become(other.players[1]);
            out = other.out;
            start = other.start;
            began = other.began;
            turn = other.turn;
            left = other.left;
            restAtVisit = other.restAtVisit;
            seed = other.seed;
        }

        void begin() {
            players[0].rest = start;
            players[1].rest = start;
            beginVisit(began);
        }

        private void beginVisit(int player) {
            turn = player;
            left = VISIT;
            restAtVisit = players[player].rest;
        }

        int restOfThrower() {
            return players[turn].rest;
        }

        int legsOfBoth() {
            return players[0].legs + players[1].legs;
        }

        boolean hasRestOfOne() {
            return players[0].rest == 1 || players[1].rest == 1 || restAtVisit == 1;
        }

        /** A DART of the one who is to throw makes of the REST the next rest, or is BUST: just that. */
        int land(int next) {
            Player one = players[turn];
            int now = next == BUST ? restAtVisit : next;
            one.thrown++;
            one.points += one.rest - now;
            one.rest = now;
            left--;
            if (next == 0) {
                one.legs++;
                began = 1 - began;
                begin();
            } else if (next == BUST || left == 0) {
                beginVisit(1 - turn);
            }
            return next;
        }

        /** The next drawn number, 0 .. 999. */
        int draw() {
            seed = seed * 1103515245 + 12345;
            return (seed >>> 16) % 1000;
        }
    }

    /** THE TAPE, and the SPOTS of the PATH that was read from it last. */
    private static final class Tape {
        private static final int MOST_BYTES = 60, MOST_SPOTS = 12;

        private final int[] bytes = new int[MOST_BYTES];
        int length;
        final int[] spots = new int[MOST_SPOTS];
        int count;
        private int at;

        boolean append(int letter) {
            if (length >= MOST_BYTES) {
                return false;
            }
            bytes[length] = letter;
            length++;
            return true;
        }

        /** THE TAPE as a PATH, and empty then: the FAULT, or NONE. */
        int read() {
            int fault = faultOfPath();
            length = 0;
            return fault;
        }

        private int faultOfPath() {
            at = 0;
            count = 0;
            for (int i = 0; i < MOST_SPOTS; i++) {
                int fault = faultOfSpot();
                if (fault != NONE) {
                    return fault;
                }
                if (at >= length) {
                    return NONE;
                }
                if (bytes[at] != ' ') {
                    return at;
                }
                at++;
            }
            // The blank just taken would lead to one SPOT more than a PATH has.
            return at - 1;
        }

        private int faultOfSpot() {
            if (at >= length) {
                return length;
            }
            switch (bytes[at]) {
                case '-': return take(1, OUTSIDE);
                case 'O': return faultOfPair('B', OUTER);
                case 'B': return faultOfPair('U', BULL);
                case 'S': return faultOfNumber(0);
                case 'D': return faultOfNumber(20);
                case 'T': return faultOfNumber(40);
                default: return at;
            }
        }

        private int faultOfPair(int second, int spot) {
            if (at + 1 >= length || bytes[at + 1] != second) {
                return at + 1;
            }
            return take(2, spot);
        }

        private int faultOfNumber(int below) {
            int begin = at + 1;
            int figures = 0;
            int number = 0;
            while (figures < 2 && begin + figures < length && isFigure(bytes[begin + figures])) {
                number = number * 10 + bytes[begin + figures] - '0';
                figures++;
            }
            if (number < 1 || number > 20) {
                return begin;
            }
            return take(1 + figures, below + number);
        }

        private static boolean isFigure(int letter) {
            return letter >= '0' && letter <= '9';
        }

        private int take(int letters, int spot) {
            at += letters;
            if (count < MOST_SPOTS) {
                spots[count] = spot;
                count++;
            }
            return NONE;
        }
    }

    /** THE PAPER. */
    private static final class Paper {
        private static final int MOST_BYTES = 4 * VISIT;

        final int[] bytes = new int[MOST_BYTES];
        int length;

        void spellRow(int[] spots, int count) {
            length = 0;
            for (int i = 0; i < count; i++) {
                if (i > 0) {
                    put(' ');
                }
                spellSpot(spots[i]);
            }
        }

        private void spellSpot(int spot) {
            switch (Board.kindOf(spot)) {
                case KIND_OUTER: putPair('O', 'B'); break;
                case KIND_BULL: putPair('B', 'U'); break;
                case KIND_SINGLE: putNumber('S', spot); break;
                case KIND_DOUBLE: putNumber('D', spot - 20); break;
                case KIND_TREBLE: putNumber('T', spot - 40); break;
                default: put('-'); break;
            }
        }

        private void putPair(int first, int second) {
            put(first);
            put(second);
        }

        private void putNumber(int letter, int number) {
            put(letter);
            if (number >= 10) {
                put('0' + number / 10);
            }
            put('0' + number % 10);
        }

        private void put(int letter) {
            if (length < MOST_BYTES) {
                bytes[length] = letter;
                length++;
            }
        }
    }

    /** A RACK: missing, or a row of places for a KIND. */
    private static final class Rack {
        final int[] places = new int[TOP_SIZE];
        int kind;
        int size = MISSING;

        boolean isMissing() {
            return size == MISSING;
        }

        void make(int newKind, int newSize) {
            kind = newKind;
            size = newSize;
            Arrays.fill(places, EMPTY);
        }

        void become(Rack other) {
            kind = other.kind;
            size = other.size;
            System.arraycopy(other.places, 0, places, 0, TOP_SIZE);
        }

        /** The SPOTS from a place on come into a row, empty places left out: how many. */
        int gather(int from, int[] row) {
            int count = 0;
            for (int i = from; i < size; i++) {
                if (places[i] != EMPTY) {
                    row[count] = places[i];
                    count++;
                }
            }
            return count;
        }
    }
}
