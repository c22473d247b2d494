import java.util.ArrayList;
import java.util.Arrays;
import java.util.HashMap;
import java.util.List;
import java.util.Map;
import java.util.regex.Matcher;
import java.util.regex.Pattern;

/**
 * The document once more, as its words stand and with the Java library, so that random runs can be compared:
 * everything is worked out anew from a key of the hands and OUT; no shortcut of the class is taken.
 */
final class Oracle {
    private static final long NO = -9000000000000000000L;
    private static final List<Integer> RING =
            List.of(20, 1, 18, 4, 13, 6, 10, 15, 2, 17, 3, 19, 7, 16, 8, 11, 14, 9, 12, 5);
    private static final String[] PARENTS = {"0", "10", "20", "30", "420", "510"};
    private static final Map<String, double[][]> DARTS = new HashMap<>();
    private static final Map<String, double[][][]> CHANCES = new HashMap<>();
    private static final Map<String, double[][][]> RACES = new HashMap<>();
    private static final Map<String, List<int[]>> FINISHES = new HashMap<>();

    private int[] side = {60, 60};
    private int[] ring = {80, 80};
    private int[] rest = {301, 301};
    private int[] legs = {0, 0};
    private int[] thrown = {0, 0};
    private int[] points = {0, 0};
    private int out = 1;
    private int start = 301;
    private int began;
    private int turn;
    private int left = 3;
    private int visit = 301;
    private int seed = 1;
    private Oracle picture;
    private String tape = "";
    private String paper = "";
    private final int[] rackKinds = new int[4];
    private final Integer[][] racks = new Integer[4][];

    // ---- spots ----

    private static int kind(int spot) {
        if (spot == 0) return 0;
        if (spot <= 20) return 1;
        if (spot <= 40) return 2;
        if (spot <= 60) return 3;
        return spot == 61 ? 5 : 4;
    }

    private static int score(int spot) {
        if (spot == 0) return 0;
        if (spot <= 20) return spot;
        if (spot <= 40) return 2 * (spot - 20);
        if (spot <= 60) return 3 * (spot - 40);
        return spot == 61 ? 25 : 50;
    }

    private static int number(int spot) {
        if (spot == 0 || spot > 60) return 0;
        return spot <= 20 ? spot : spot <= 40 ? spot - 20 : spot - 40;
    }

    private static int right(int n) {
        return RING.get((RING.indexOf(n) + 1) % 20);
    }

    private static int left(int n) {
        return RING.get((RING.indexOf(n) + 19) % 20);
    }

    private static boolean of(int spot, int kind) {
        return PARENTS[kind(spot)].contains("" + kind);
    }

    private static boolean isSpot(int spot) {
        return 0 <= spot && spot <= 62;
    }

    private static boolean isAim(int aim) {
        return 1 <= aim && aim <= 62;
    }

    /** The FALLS of an AIM: SPOT, WEIGHT. */
    private static List<int[]> fallsOf(int side, int ring, int aim) {
        List<int[]> falls = new ArrayList<>();
        falls.add(new int[] {aim, 0});
        int n = number(aim);
        if (aim <= 20) {
            falls.add(new int[] {left(n), side});
            falls.add(new int[] {right(n), side});
            falls.add(new int[] {40 + n, ring});
            falls.add(new int[] {20 + n, ring});
        } else if (aim <= 40) {
            falls.add(new int[] {20 + left(n), side});
            falls.add(new int[] {20 + right(n), side});
            falls.add(new int[] {n, ring});
            falls.add(new int[] {0, ring});
        } else if (aim <= 60) {
            falls.add(new int[] {40 + left(n), side});
            falls.add(new int[] {40 + right(n), side});
            falls.add(new int[] {n, 2 * ring});
        } else if (aim == 61) {
            falls.add(new int[] {62, ring});
            falls.add(new int[] {6, side});
            falls.add(new int[] {11, side});
            falls.add(new int[] {20, ring});
        } else {
            falls.add(new int[] {61, 2 * side + 2 * ring});
        }
        int others = 0;
        for (int[] fall : falls) others += fall[1];
        falls.get(0)[1] = 1000 - others;
        return falls;
    }

    private static List<List<int[]>> allFalls(int side, int ring) {
        List<List<int[]>> all = new ArrayList<>();
        all.add(List.of());
        for (int aim = 1; aim <= 62; aim++) all.add(fallsOf(side, ring, aim));
        return all;
    }

    private static int least(int out) {
        return out == 0 ? 1 : 2;
    }

    /** The next rest, -5 for BUST. */
    private static int next(int out, int r, int spot) {
        int n = r - score(spot);
        if (n < 0) return -5;
        if (n == 0 && out == 1 && !of(spot, 2)) return -5;
        if (n == 0 && out == 2 && !of(spot, 2) && !of(spot, 3)) return -5;
        if (n == 1 && out != 0) return -5;
        return n;
    }

    // ---- DARTS, CHANCE, THE RACE ----

    /** By rest: DARTS, THE AIM. */
    private static double[][] dartsOf(int out, int side, int ring) {
        return DARTS.computeIfAbsent(out + " " + side + " " + ring, key -> {
            List<List<int[]>> all = allFalls(side, ring);
            double[][] table = new double[502][2];
            for (int r = least(out); r <= 501; r++) {
                double bestValue = Double.POSITIVE_INFINITY;
                int best = -1;
                for (int aim = 62; aim >= 1; aim--) {
                    double sum = 1.0;
                    int staying = 0;
                    for (int[] fall : all.get(aim)) {
                        int n = next(out, r, fall[0]);
                        if (n == -5 || fall[0] == 0) {
                            staying += fall[1];
                        } else {
                            sum = sum + (((double) fall[1]) / 1000.0) * table[n][0];
                        }
                    }
                    if (staying == 1000) continue;
                    double value = sum / (((double) (1000 - staying)) / 1000.0);
                    if (value <= bestValue) {
                        bestValue = value;
                        best = aim;
                    }
                }
                table[r] = new double[] {bestValue, best};
            }
            return table;
        });
    }

    /** By k, rest: CHANCE, its AIM. */
    private static double[][][] chancesOf(int out, int side, int ring) {
        return CHANCES.computeIfAbsent(out + " " + side + " " + ring, key -> {
            List<List<int[]>> all = allFalls(side, ring);
            double[][][] table = new double[4][181][2];
            for (int k = 1; k <= 3; k++) {
                for (int r = least(out); r <= 180; r++) {
                    double bestValue = -1.0;
                    int best = -1;
                    for (int aim = 62; aim >= 1; aim--) {
                        double sum = 0.0;
                        for (int[] fall : all.get(aim)) {
                            int n = next(out, r, fall[0]);
                            if (n == -5) continue;
                            sum = sum + (((double) fall[1]) / 1000.0) * (n == 0 ? 1.0 : table[k - 1][n][0]);
                        }
                        if (sum >= bestValue) {
                            bestValue = sum;
                            best = aim;
                        }
                    }
                    table[k][r] = new double[] {bestValue, best};
                }
            }
            return table;
        });
    }

    /** A value in THE RACE by one PLAYER at its own rest; the other's values by next rest, and as it is. */
    private static double raceValue(int out, List<int[]> falls, int own, double[] others, double other) {
        double sum = 0.0;
        int staying = 0;
        for (int[] fall : falls) {
            int n = next(out, own, fall[0]);
            double odd = ((double) fall[1]) / 1000.0;
            if (n == -5 || fall[0] == 0) {
                staying += fall[1];
            } else if (n == 0) {
                sum = sum + odd;
            } else {
                sum = sum + odd * (1.0 - others[n]);
            }
        }
        return sum + (((double) staying) / 1000.0) * (1.0 - other);
    }

    /** Value, AIM: the greatest, the least number with it. */
    private static double[] raceBest(int out, List<List<int[]>> all, int own, double[] others, double other) {
        double[] best = {Double.NEGATIVE_INFINITY, -1};
        for (int aim = 62; aim >= 1; aim--) {
            double value = raceValue(out, all.get(aim), own, others, other);
            if (value >= best[0]) best = new double[] {value, aim};
        }
        return best;
    }

    /** By r, q: X, Y, SETTLED, RACE AIMS of 0 and 1. */
    private static double[][][] raceOf(int out, int[] side, int[] ring) {
        return RACES.computeIfAbsent(out + Arrays.toString(side) + Arrays.toString(ring), key -> {
            List<List<int[]>> all0 = allFalls(side[0], ring[0]);
            List<List<int[]>> all1 = allFalls(side[1], ring[1]);
            double[][][] table = new double[25][25][];
            for (int r = least(out); r <= 24; r++) {
                for (int q = least(out); q <= 24; q++) {
                    double[] ys = new double[25];
                    double[] xs = new double[25];
                    for (int n = least(out); n < r; n++) ys[n] = table[n][q][1];
                    for (int n = least(out); n < q; n++) xs[n] = table[r][n][0];
                    double x = 0.5;
                    double y = 0.5;
                    boolean same = false;
                    for (int sweep = 1; sweep <= 12; sweep++) {
                        double x2 = raceBest(out, all0, r, ys, y)[0];
                        double y2 = raceBest(out, all1, q, xs, x2)[0];
                        same = Double.doubleToRawLongBits(x) == Double.doubleToRawLongBits(x2)
                                && Double.doubleToRawLongBits(y) == Double.doubleToRawLongBits(y2);
                        x = x2;
                        y = y2;
                    }
                    table[r][q] = new double[] {x, y, same ? 1 : 0,
                        raceBest(out, all0, r, ys, y)[1], raceBest(out, all1, q, xs, x)[1]};
                }
            }
            return table;
        });
    }

    // ---- FINISHES ----

    private static List<int[]> finishesOf(int out, int r) {
        return FINISHES.computeIfAbsent(out + " " + r, key -> {
            List<List<int[]>> bySize = List.of(new ArrayList<>(), new ArrayList<>(), new ArrayList<>());
            for (int a = 1; a <= 62; a++) {
                int n = next(out, r, a);
                if (n == 0) bySize.get(0).add(new int[] {a});
                if (n <= 0) continue;
                for (int b = 1; b <= 62; b++) {
                    int m = next(out, n, b);
                    if (m == 0) bySize.get(1).add(new int[] {a, b});
                    if (m <= 0) continue;
                    for (int c = 1; c <= 62; c++) {
                        if (next(out, m, c) == 0) bySize.get(2).add(new int[] {a, b, c});
                    }
                }
            }
            List<int[]> all = new ArrayList<>();
            bySize.forEach(all::addAll);
            return all;
        });
    }

    private static String spelled(int[] row) {
        List<String> words = new ArrayList<>();
        for (int spot : row) {
            words.add(spot == 61 ? "OB" : spot == 62 ? "BU" : "?SDT".charAt(kind(spot)) + "" + number(spot));
        }
        return String.join(" ", words);
    }

    // ---- the answers ----

    private boolean isRest(int r, int top) {
        return r >= least(out) && r <= top;
    }

    private static boolean isPlayer(int p) {
        return p == 0 || p == 1;
    }

    long spot(int spot, int what) {
        if (!isSpot(spot) || what < 0 || what > 3) return -1;
        int n = number(spot);
        if (what == 0) return score(spot);
        if (what == 1) return kind(spot);
        if (n == 0) return 0;
        return what == 2 ? right(n) : left(n);
    }

    long under(int spot, int kind) {
        if (!isSpot(spot) || kind < 0 || kind > 5) return -1;
        return of(spot, kind) ? 1 : 0;
    }

    long hand(int player, int what, int v) {
        if (!isPlayer(player) || what < 0 || what > 1) return -1;
        if (v < 0 || v > 200) return -2;
        int[] row = what == 0 ? side : ring;
        int was = row[player];
        row[player] = v;
        return was;
    }

    long fall(int player, int aim, int i, int what) {
        if (!isPlayer(player) || !isAim(aim)) return -1;
        List<int[]> falls = fallsOf(side[player], ring[player], aim);
        if (i == -1) return falls.size();
        if (i < 0 || i >= falls.size() || what < 0 || what > 1) return -1;
        return falls.get(i)[what];
    }

    long out(int o) {
        if (o < 0 || o > 2) return -1;
        if (o > 0 && (rest[0] == 1 || rest[1] == 1 || visit == 1)) return -3;
        int was = out;
        out = o;
        return was;
    }

    long falls(int r, int spot) {
        if (!isSpot(spot)) return -1;
        if (r < 1 || r > 501) return -2;
        return next(out, r, spot);
    }

    private double[] dartsRow(int player, int r) {
        if (!isPlayer(player) || r != 0 && !isRest(r, 501)) return null;
        return r == 0 ? new double[] {0.0, -1} : dartsOf(out, side[player], ring[player])[r];
    }

    long darts(int player, int r) {
        double[] row = dartsRow(player, r);
        return row == null ? NO : Double.doubleToRawLongBits(row[0]);
    }

    long dartsCut(int player, int r) {
        double[] row = dartsRow(player, r);
        return row == null ? -1 : Float.floatToRawIntBits((float) row[0]);
    }

    long thousandths(int player, int r) {
        double[] row = dartsRow(player, r);
        return row == null ? -1 : (int) (row[0] * 1000.0);
    }

    long aim(int player, int r) {
        double[] row = dartsRow(player, r);
        return row == null ? -1 : (int) row[1];
    }

    long chance(int player, int r, int k) {
        if (!isPlayer(player) || !isRest(r, 180) || k < 0 || k > 3) return NO;
        return Double.doubleToRawLongBits(chancesOf(out, side[player], ring[player])[k][r][0]);
    }

    long chanceAim(int player, int r, int k) {
        if (!isPlayer(player) || !isRest(r, 180) || k < 1 || k > 3) return -1;
        return (int) chancesOf(out, side[player], ring[player])[k][r][1];
    }

    private double[] raceRow(int r, int q) {
        return isRest(r, 24) && isRest(q, 24) ? raceOf(out, side, ring)[r][q] : null;
    }

    long race(int r, int q, int who) {
        double[] row = isPlayer(who) ? raceRow(r, q) : null;
        return row == null ? NO : Double.doubleToRawLongBits(row[who]);
    }

    long raceAim(int r, int q, int who) {
        double[] row = isPlayer(who) ? raceRow(r, q) : null;
        return row == null ? -1 : (int) row[3 + who];
    }

    long settled(int r, int q) {
        double[] row = raceRow(r, q);
        return row == null ? -1 : (int) row[2];
    }

    long percent(int r, int q) {
        double[] row = raceRow(r, q);
        return row == null ? -1 : (int) (float) (row[0] * 100.0);
    }

    long ways(int r, int k) {
        if (!isRest(r, 180) || k < 0 || k > 3) return -1;
        return finishesOf(out, r).stream().filter(row -> k == 0 || row.length == k).count();
    }

    private int[] finish(int r, int i) {
        if (!isRest(r, 180)) return null;
        List<int[]> all = finishesOf(out, r);
        return i < 0 || i >= all.size() ? null : all.get(i);
    }

    long way(int r, int i, int j) {
        int[] row = finish(r, i);
        if (row == null || j < -1 || j >= row.length) return -1;
        return j == -1 ? row.length : row[j];
    }

    long spell(int r, int i) {
        int[] row = finish(r, i);
        if (row == null) return -1;
        paper = spelled(row);
        return paper.length();
    }

    long start(int s) {
        if (s < 2 || s > 501) return -2;
        int was = start;
        start = s;
        anew();
        return was;
    }

    private void anew() {
        rest = new int[] {start, start};
        turn = began;
        left = 3;
        visit = start;
    }

    long thrown(int spot) {
        return isSpot(spot) ? dart(spot) : -1;
    }

    private int dart(int spot) {
        int p = turn;
        int n = next(out, rest[p], spot);
        thrown[p]++;
        left--;
        if (n == 0) {
            points[p] += rest[p];
            legs[p]++;
            began = 1 - began;
            anew();
            return 0;
        }
        if (n == -5) {
            points[p] -= visit - rest[p];
            rest[p] = visit;
            left = 0;
        } else {
            points[p] += rest[p] - n;
            rest[p] = n;
        }
        if (left == 0) {
            turn = 1 - p;
            left = 3;
            visit = rest[turn];
        }
        return n;
    }

    long throwsAt(int aim) {
        return isAim(aim) ? draw(aim) : -1;
    }

    private int draw(int aim) {
        seed = seed * 1103515245 + 12345;
        int d = (int) ((seed & 0xffffffffL) / 65536 % 1000);
        int sum = 0;
        for (int[] fall : fallsOf(side[turn], ring[turn], aim)) {
            sum += fall[1];
            if (sum > d) {
                dart(fall[0]);
                return fall[0];
            }
        }
        throw new IllegalStateException("no FALL");
    }

    long minds(int n) {
        if (n < 1 || n > 12) return -2;
        int before = legs[0] + legs[1];
        for (int i = 0; i < n; i++) draw((int) aim(turn, rest[turn]));
        return legs[0] + legs[1] - before;
    }

    long seed(int v) {
        int was = seed;
        seed = v;
        return was;
    }

    long average(int player) {
        if (!isPlayer(player)) return -1;
        float value = thrown[player] == 0 ? 0.0f : 3.0f * (float) points[player] / (float) thrown[player];
        return Float.floatToRawIntBits(value);
    }

    long told(int what) {
        int[] row = {turn, left, began, start, out, visit, seed, tape.length(), paper.length(), -1,
            rest[0], legs[0], thrown[0], points[0], side[0], ring[0], -1, -1, -1, -1,
            rest[1], legs[1], thrown[1], points[1], side[1], ring[1]};
        return what < 0 || what >= row.length ? -1 : row[what];
    }

    long feed(int letter) {
        if (letter < 1 || letter > 127) return -2;
        if (tape.length() == 60) return -4;
        tape += (char) letter;
        return tape.length();
    }

    long clear() {
        int had = tape.length();
        tape = "";
        return had;
    }

    private static final String SPOT = "(?:[SDT][0-9]{1,2}|OB|BU|-)";
    private static final Pattern TEXT = Pattern.compile(SPOT + "(?: " + SPOT + "){0,11}");

    /** -1 for none. The grammar with any figures tells where no text goes on; then numbers ahead of that. */
    private static int fault(String text) {
        int stop = 0;
        while (stop < text.length()) {
            Matcher matcher = TEXT.matcher(text.substring(0, stop + 1));
            if (!matcher.matches() && !matcher.hitEnd()) break;
            stop++;
        }
        Matcher numbers = Pattern.compile("[0-9]{1,2}").matcher(text.substring(0, stop));
        while (numbers.find()) {
            int n = Integer.parseInt(numbers.group());
            if (n < 1 || n > 20) return numbers.start();
        }
        return stop == text.length() && TEXT.matcher(text).matches() ? -1 : stop;
    }

    private static List<Integer> spots(String text) {
        List<Integer> spots = new ArrayList<>();
        for (String word : text.split(" ")) {
            switch (word) {
                case "-": spots.add(0); break;
                case "OB": spots.add(61); break;
                case "BU": spots.add(62); break;
                default: spots.add("SDT".indexOf(word.charAt(0)) * 20 + Integer.parseInt(word.substring(1)));
            }
        }
        return spots;
    }

    private int verdict(List<Integer> row, int from) {
        int r = from;
        for (int i = 0; i < row.size(); i++) {
            r = next(out, r, row.get(i));
            if (r == -5) return 100 + i;
            if (r == 0) return i + 1 == row.size() ? i : 200 + i;
        }
        return 1000 + r;
    }

    long judge(int r) {
        if (!isRest(r, 501)) return -2;
        String text = tape;
        tape = "";
        int fault = fault(text);
        return fault >= 0 ? -100 - fault : verdict(spots(text), r);
    }

    long play() {
        String text = tape;
        tape = "";
        int fault = fault(text);
        if (fault >= 0) return -100 - fault;
        int before = legs[0] + legs[1];
        for (int spot : spots(text)) dart(spot);
        return legs[0] + legs[1] - before;
    }

    long paper(int i) {
        return i < 0 || i >= paper.length() ? -1 : paper.charAt(i);
    }

    private static boolean isRack(int rack) {
        return rack >= 0 && rack <= 3;
    }

    long rack(int rack, int kind, int n) {
        if (!isRack(rack) || kind < 0 || kind > 5) return -1;
        if (n > 20) return -2;
        if (n < 0) return -14;
        racks[rack] = new Integer[n];
        rackKinds[rack] = kind;
        return 1;
    }

    long lays(int rack, int i, int spot) {
        if (!isRack(rack) || spot < -1 || spot > 62) return -1;
        if (racks[rack] == null) return -11;
        if (i < 0 || i >= racks[rack].length) return -12;
        if (spot >= 0 && !of(spot, rackKinds[rack])) return -16;
        racks[rack][i] = spot < 0 ? null : Integer.valueOf(spot);
        return 1;
    }

    long laid(int rack, int i) {
        if (!isRack(rack)) return -1;
        if (racks[rack] == null) return -11;
        if (i < 0 || i >= racks[rack].length) return -12;
        return racks[rack][i] == null ? -5 : racks[rack][i];
    }

    long like(int rack, int other) {
        if (!isRack(rack) || !isRack(other)) return -1;
        if (racks[other] == null) return -11;
        racks[rack] = racks[other].clone();
        rackKinds[rack] = rackKinds[other];
        return racks[rack].length;
    }

    long judged(int rack, int i, int r) {
        if (!isRack(rack)) return -1;
        if (!isRest(r, 501)) return -2;
        if (racks[rack] == null) return -11;
        if (i < 0 || i > racks[rack].length) return -12;
        List<Integer> row = new ArrayList<>();
        for (Integer spot : Arrays.copyOfRange(racks[rack], i, racks[rack].length)) {
            if (spot != null) row.add(spot);
        }
        return verdict(row, r);
    }

    long image() {
        picture = new Oracle();
        picture.take(this);
        return legs[0] + legs[1];
    }

    long undo() {
        if (picture == null) return -3;
        take(picture);
        return legs[0] + legs[1];
    }

    private void take(Oracle from) {
        side = from.side.clone();
        ring = from.ring.clone();
        rest = from.rest.clone();
        legs = from.legs.clone();
        thrown = from.thrown.clone();
        points = from.points.clone();
        out = from.out;
        start = from.start;
        began = from.began;
        turn = from.turn;
        left = from.left;
        visit = from.visit;
        seed = from.seed;
    }
}
