/** For each promise of the document: ordinary inputs, the edges that it names, and wrong inputs, told by hand. */
public final class PromisesTest {
    private static final long NO = -9000000000000000000L;
    private static final int BUST = -5;
    private static final long ONE = Double.doubleToRawLongBits(1.0);
    private static final Checks CHECKS = new Checks("PromisesTest");

    public static void main(String[] args) {
        newObject();
        spot();
        under();
        hand();
        fall();
        out();
        falls();
        darts();
        aim();
        chance();
        race();
        raceOfEquals();
        ways();
        way();
        spell();
        start();
        thrown();
        throwsAt();
        minds();
        average();
        told();
        feed();
        judge();
        faults();
        play();
        rack();
        lays();
        like();
        judged();
        image();
        CHECKS.end();
    }

    private static void due(String call, long got, long want) {
        CHECKS.due(call, got, want);
    }

    /** A PLAYER who never misses. */
    private static void perfect(DartMind x, int player) {
        x.hand(player, 0, 0);
        x.hand(player, 1, 0);
    }

    private static DartMind perfectBoth() {
        DartMind x = new DartMind();
        perfect(x, 0);
        perfect(x, 1);
        return x;
    }

    private static void feed(DartMind x, String text) {
        for (int i = 0; i < text.length(); i++) {
            x.feed(text.charAt(i));
        }
    }

    private static int judge(DartMind x, String text, int rest) {
        feed(x, text);
        return x.judge(rest);
    }

    private static int play(DartMind x, String text) {
        feed(x, text);
        return x.play();
    }

    private static String paper(DartMind x) {
        StringBuilder text = new StringBuilder();
        for (int i = 0; i < x.told(8); i++) {
            text.append((char) x.paper(i));
        }
        return text.toString();
    }

    private static void standing(DartMind x, String when, int turn, int left, int rest0, int rest1) {
        due(when + ": who is to throw", x.told(0), turn);
        due(when + ": LEFT", x.told(1), left);
        due(when + ": REST of PLAYER 0", x.told(10), rest0);
        due(when + ": REST of PLAYER 1", x.told(20), rest1);
    }

    // 1
    private static void newObject() {
        DartMind x = new DartMind();
        int[] whats = {0, 1, 2, 3, 4, 5, 6, 7, 8, 10, 11, 12, 13, 14, 15, 20, 21, 22, 23, 24, 25};
        int[] wants = {0, 3, 0, 301, 1, 301, 1, 0, 0, 301, 0, 0, 0, 60, 80, 301, 0, 0, 0, 60, 80};
        for (int i = 0; i < whats.length; i++) {
            due("new: told(" + whats[i] + ")", x.told(whats[i]), wants[i]);
        }
        for (int rack = 0; rack < 4; rack++) {
            due("new: laid(" + rack + ", 0)", x.laid(rack, 0), -11);
        }
        due("new: undo()", x.undo(), -3);
        due("new: paper(0)", x.paper(0), -1);
    }

    // 2
    private static void spot() {
        DartMind x = new DartMind();
        int[] spots = {0, 1, 20, 21, 40, 41, 60, 61, 62};
        int[] scores = {0, 1, 20, 2, 40, 3, 60, 25, 50};
        int[] kinds = {0, 1, 1, 2, 2, 3, 3, 5, 4};
        int[] rights = {0, 18, 1, 18, 1, 18, 1, 0, 0};
        int[] lefts = {0, 20, 5, 20, 5, 20, 5, 0, 0};
        for (int i = 0; i < spots.length; i++) {
            due("spot(" + spots[i] + ", 0)", x.spot(spots[i], 0), scores[i]);
            due("spot(" + spots[i] + ", 1)", x.spot(spots[i], 1), kinds[i]);
            due("spot(" + spots[i] + ", 2)", x.spot(spots[i], 2), rights[i]);
            due("spot(" + spots[i] + ", 3)", x.spot(spots[i], 3), lefts[i]);
        }
        int[] ring = {20, 1, 18, 4, 13, 6, 10, 15, 2, 17, 3, 19, 7, 16, 8, 11, 14, 9, 12, 5};
        for (int i = 0; i < 20; i++) {
            due("RIGHT of " + ring[i], x.spot(ring[i], 2), ring[(i + 1) % 20]);
            due("LEFT of T" + ring[i], x.spot(ring[i] + 40, 3), ring[(i + 19) % 20]);
        }
        due("spot(63, 0)", x.spot(63, 0), -1);
        due("spot(-1, 0)", x.spot(-1, 0), -1);
        due("spot(1, 4)", x.spot(1, 4), -1);
        due("spot(1, -1)", x.spot(1, -1), -1);
        due("spot(min, min)", x.spot(Integer.MIN_VALUE, Integer.MAX_VALUE), -1);
    }

    // 3
    private static void under() {
        DartMind x = new DartMind();
        int[] spots = {0, 1, 20, 21, 40, 41, 60, 61, 62};
        String[] kinds = {"0", "01", "01", "02", "02", "03", "03", "015", "024"};
        for (int i = 0; i < spots.length; i++) {
            for (int kind = 0; kind <= 5; kind++) {
                int want = kinds[i].indexOf('0' + kind) >= 0 ? 1 : 0;
                due("under(" + spots[i] + ", " + kind + ")", x.under(spots[i], kind), want);
            }
        }
        due("under(-1, 0)", x.under(-1, 0), -1);
        due("under(63, 0)", x.under(63, 0), -1);
        due("under(0, -1)", x.under(0, -1), -1);
        due("under(0, 6)", x.under(0, 6), -1);
    }

    // 4
    private static void hand() {
        DartMind x = new DartMind();
        due("hand(1, 0, 200)", x.hand(1, 0, 200), 60);
        due("hand(1, 0, 0)", x.hand(1, 0, 0), 200);
        due("hand(0, 1, 0)", x.hand(0, 1, 0), 80);
        due("told(24)", x.told(24), 0);
        due("told(15)", x.told(15), 0);
        due("told(14)", x.told(14), 60);
        due("told(25)", x.told(25), 80);
        due("hand(0, 0, 201)", x.hand(0, 0, 201), -2);
        due("hand(0, 0, -1)", x.hand(0, 0, -1), -2);
        due("hand(2, 0, 201)", x.hand(2, 0, 201), -1);
        due("hand(-1, 0, 1)", x.hand(-1, 0, 1), -1);
        due("hand(0, 2, 1)", x.hand(0, 2, 1), -1);
        due("hand(0, -1, 201)", x.hand(0, -1, 201), -1);
        due("told(14) behind what is wrong", x.told(14), 60);
        due("fall by the new hand of 1", x.fall(1, 1, 0, 1), 1000 - 160);
        due("fall by the new hand of 0", x.fall(0, 1, 0, 1), 1000 - 120);
    }

    // 5
    private static void fall() {
        DartMind x = new DartMind();
        x.hand(1, 0, 7);
        x.hand(1, 1, 11);
        checkFalls(x, 1, 20, new int[] {20, 964, 5, 7, 1, 7, 60, 11, 40, 11});
        checkFalls(x, 1, 25, new int[] {25, 964, 32, 7, 40, 7, 5, 11, 0, 11});
        checkFalls(x, 1, 51, new int[] {51, 964, 48, 7, 54, 7, 11, 22});
        checkFalls(x, 1, 61, new int[] {61, 964, 62, 11, 6, 7, 11, 7, 20, 11});
        checkFalls(x, 1, 62, new int[] {62, 964, 61, 36});
        checkFalls(x, 0, 62, new int[] {62, 720, 61, 280});
        x.hand(1, 0, 200);
        x.hand(1, 1, 200);
        checkFalls(x, 1, 62, new int[] {62, 200, 61, 800});
        checkFalls(x, 1, 41, new int[] {41, 200, 60, 200, 58, 200, 1, 400});
        due("fall(0, 1, -1, 9)", x.fall(0, 1, -1, 9), 5);
        due("fall(0, 1, -2, 0)", x.fall(0, 1, -2, 0), -1);
        due("fall(0, 1, 5, 0)", x.fall(0, 1, 5, 0), -1);
        due("fall(0, 41, 4, 0)", x.fall(0, 41, 4, 0), -1);
        due("fall(0, 62, 2, 0)", x.fall(0, 62, 2, 0), -1);
        due("fall(0, 1, 0, 2)", x.fall(0, 1, 0, 2), -1);
        due("fall(0, 1, 0, -1)", x.fall(0, 1, 0, -1), -1);
        due("fall(0, 0, -1, 0)", x.fall(0, 0, -1, 0), -1);
        due("fall(0, 63, -1, 0)", x.fall(0, 63, -1, 0), -1);
        due("fall(2, 1, -1, 0)", x.fall(2, 1, -1, 0), -1);
        due("fall(-1, 1, 0, 0)", x.fall(-1, 1, 0, 0), -1);
    }

    private static void checkFalls(DartMind x, int player, int aim, int[] want) {
        String call = "fall(" + player + ", " + aim + ", ";
        due(call + "-1, 0)", x.fall(player, aim, -1, 0), want.length / 2);
        for (int i = 0; i < want.length; i++) {
            due(call + i / 2 + ", " + i % 2 + ")", x.fall(player, aim, i / 2, i % 2), want[i]);
        }
    }

    // 6
    private static void out() {
        DartMind x = new DartMind();
        due("out(2)", x.out(2), 1);
        due("out(0)", x.out(0), 2);
        due("out(3)", x.out(3), -1);
        due("out(-1)", x.out(-1), -1);
        due("told(4)", x.told(4), 0);
        x.start(2);
        due("a REST of 1 by STRAIGHT", x.thrown(1), 1);
        due("out(1) at a REST of 1", x.out(1), -3);
        due("out(2) at a REST of 1", x.out(2), -3);
        due("out(3) at a REST of 1", x.out(3), -1);
        due("out(0) at a REST of 1", x.out(0), 0);
        x.thrown(0);
        x.thrown(0);
        due("out(1) at the other's REST of 1", x.out(1), -3);
        x.thrown(0);
        x.thrown(0);
        x.thrown(0);
        due("REST as the VISIT began is 1", x.told(5), 1);
        due("out(2) as the VISIT began", x.out(2), -3);
        x.start(2);
        x.thrown(0);
        x.thrown(0);
        x.thrown(0);
        x.thrown(1);
        x.thrown(0);
        x.thrown(0);
        standing(x, "PLAYER 1 is at 1 alone", 0, 3, 2, 1);
        due("out(1) at PLAYER 1's REST of 1", x.out(1), -3);
        x.start(2);
        due("out(1) when no REST is 1", x.out(1), 0);
        due("a REST of 1 is BUST at once", x.falls(2, 1), BUST);
    }

    // 7
    private static void falls() {
        DartMind x = new DartMind();
        due("falls(501, 60)", x.falls(501, 60), 441);
        due("falls(40, 40)", x.falls(40, 40), 0);
        due("falls(50, 62)", x.falls(50, 62), 0);
        due("falls(25, 61)", x.falls(25, 61), BUST);
        due("falls(20, 20)", x.falls(20, 20), BUST);
        due("falls(60, 60)", x.falls(60, 60), BUST);
        due("falls(21, 20)", x.falls(21, 20), BUST);
        due("falls(22, 20)", x.falls(22, 20), 2);
        due("falls(2, 3)", x.falls(2, 3), BUST);
        due("falls(2, 0)", x.falls(2, 0), 2);
        due("falls(1, 0)", x.falls(1, 0), BUST);
        x.out(2);
        due("MASTER: falls(60, 60)", x.falls(60, 60), 0);
        due("MASTER: falls(40, 40)", x.falls(40, 40), 0);
        due("MASTER: falls(50, 62)", x.falls(50, 62), 0);
        due("MASTER: falls(25, 61)", x.falls(25, 61), BUST);
        due("MASTER: falls(4, 41)", x.falls(4, 41), BUST);
        x.out(0);
        due("STRAIGHT: falls(25, 61)", x.falls(25, 61), 0);
        due("STRAIGHT: falls(20, 20)", x.falls(20, 20), 0);
        due("STRAIGHT: falls(21, 20)", x.falls(21, 20), 1);
        due("STRAIGHT: falls(1, 0)", x.falls(1, 0), 1);
        due("STRAIGHT: falls(1, 2)", x.falls(1, 2), BUST);
        due("falls(0, 1)", x.falls(0, 1), -2);
        due("falls(502, 1)", x.falls(502, 1), -2);
        due("falls(0, 63)", x.falls(0, 63), -1);
        due("falls(5, -1)", x.falls(5, -1), -1);
    }

    // 8, 9, 10
    private static void darts() {
        DartMind x = new DartMind();
        due("darts(0, 2)", x.darts(0, 2), 4608933818655105934L);
        due("darts(1, 50)", x.darts(1, 50), 4610393239991204688L);
        due("darts(0, 0)", x.darts(0, 0), 0);
        due("dartsCut(0, 0)", x.dartsCut(0, 0), 0);
        due("dartsCut(0, 50)", x.dartsCut(0, 50),
                Float.floatToRawIntBits((float) Double.longBitsToDouble(4610393239991204688L)));
        due("thousandths(0, 0)", x.thousandths(0, 0), 0);
        due("thousandths(0, 41)", x.thousandths(0, 41), 2528);
        perfect(x, 0);
        due("darts(0, 2), nothing missed", x.darts(0, 2), ONE);
        due("darts(0, 3), nothing missed", x.darts(0, 3), Double.doubleToRawLongBits(2.0));
        due("darts(0, 501), nothing missed", x.darts(0, 501), Double.doubleToRawLongBits(9.0));
        due("dartsCut(0, 501), nothing missed", x.dartsCut(0, 501), Float.floatToRawIntBits(9.0f));
        due("thousandths(0, 501), nothing missed", x.thousandths(0, 501), 9000);
        due("darts(1, 2), the other's hand", x.darts(1, 2), 4608933818655105934L);
        x.out(0);
        due("STRAIGHT: darts(0, 1)", x.darts(0, 1), ONE);
        due("STRAIGHT: darts(0, 60)", x.darts(0, 60), ONE);
        x.out(1);
        int[] wrong = {1, -1, 502, Integer.MIN_VALUE, Integer.MAX_VALUE};
        for (int rest : wrong) {
            due("darts(0, " + rest + ")", x.darts(0, rest), NO);
            due("dartsCut(0, " + rest + ")", x.dartsCut(0, rest), -1);
            due("thousandths(0, " + rest + ")", x.thousandths(0, rest), -1);
        }
        due("darts(2, 2)", x.darts(2, 2), NO);
        due("dartsCut(-1, 2)", x.dartsCut(-1, 2), -1);
        due("thousandths(2, 2)", x.thousandths(2, 2), -1);
    }

    // 11
    private static void aim() {
        DartMind x = perfectBoth();
        due("aim(0, 2)", x.aim(0, 2), 21);
        due("aim(0, 170)", x.aim(0, 170), 60);
        due("aim(0, 50)", x.aim(0, 50), 62);
        due("aim(1, 3), the least of like ones", x.aim(1, 3), 1);
        due("aim(0, 0)", x.aim(0, 0), -1);
        due("aim(0, 1)", x.aim(0, 1), -1);
        due("aim(0, 502)", x.aim(0, 502), -1);
        due("aim(0, 501)", x.aim(0, 501) >= 1 ? 1 : 0, 1);
        due("aim(2, 2)", x.aim(2, 2), -1);
        due("aim(-1, 2)", x.aim(-1, 2), -1);
        x.out(0);
        due("STRAIGHT: aim(0, 1)", x.aim(0, 1), 1);
        due("STRAIGHT: aim(0, 60)", x.aim(0, 60), 60);
    }

    // 12, 13
    private static void chance() {
        DartMind x = new DartMind();
        due("chance(0, 2, 3)", x.chance(0, 2, 3), 4605220722859928858L);
        due("chance(1, 50, 0)", x.chance(1, 50, 0), 0);
        due("chance(0, 2, 1)", x.chance(0, 2, 1), Double.doubleToRawLongBits(0.72));
        due("chanceAim(0, 41, 2)", x.chanceAim(0, 41, 2), 3);
        perfect(x, 0);
        due("chance(0, 170, 3)", x.chance(0, 170, 3), ONE);
        due("chanceAim(0, 170, 3)", x.chanceAim(0, 170, 3), 60);
        due("chance(0, 170, 2)", x.chance(0, 170, 2), 0);
        due("chanceAim(0, 170, 2), all alike", x.chanceAim(0, 170, 2), 1);
        due("chance(0, 180, 3)", x.chance(0, 180, 3), 0);
        x.out(2);
        due("MASTER: chance(0, 180, 3)", x.chance(0, 180, 3), ONE);
        due("MASTER: chanceAim(0, 60, 1)", x.chanceAim(0, 60, 1), 60);
        x.out(1);
        int[] wrong = {0, 1, 181, -1, Integer.MAX_VALUE};
        for (int rest : wrong) {
            due("chance(0, " + rest + ", 1)", x.chance(0, rest, 1), NO);
            due("chanceAim(0, " + rest + ", 1)", x.chanceAim(0, rest, 1), -1);
        }
        due("chance(2, 2, 1)", x.chance(2, 2, 1), NO);
        due("chance(0, 2, 4)", x.chance(0, 2, 4), NO);
        due("chance(0, 2, -1)", x.chance(0, 2, -1), NO);
        due("chanceAim(0, 2, 0)", x.chanceAim(0, 2, 0), -1);
        due("chanceAim(0, 2, 4)", x.chanceAim(0, 2, 4), -1);
        due("chanceAim(-1, 2, 1)", x.chanceAim(-1, 2, 1), -1);
        x.out(0);
        due("STRAIGHT: chance(0, 1, 1)", x.chance(0, 1, 1), ONE);
    }

    // 14, 15, 16, 17
    private static void race() {
        DartMind x = perfectBoth();
        due("race(2, 2, 0)", x.race(2, 2, 0), ONE);
        due("race(2, 2, 1)", x.race(2, 2, 1), ONE);
        due("race(3, 2, 0)", x.race(3, 2, 0), 0);
        due("race(3, 3, 0), one dart each and the first is there", x.race(3, 3, 0), ONE);
        due("raceAim(2, 2, 0)", x.raceAim(2, 2, 0), 21);
        due("raceAim(3, 2, 0), all alike", x.raceAim(3, 2, 0), 1);
        due("raceAim(24, 2, 1)", x.raceAim(24, 2, 1), 21);
        due("settled(24, 24)", x.settled(24, 24), 1);
        due("percent(2, 2)", x.percent(2, 2), 100);
        due("percent(3, 2)", x.percent(3, 2), 0);
        int[] wrong = {0, 1, 25, -1, Integer.MIN_VALUE};
        for (int rest : wrong) {
            due("race(" + rest + ", 2, 0)", x.race(rest, 2, 0), NO);
            due("race(2, " + rest + ", 0)", x.race(2, rest, 0), NO);
            due("raceAim(" + rest + ", 2, 0)", x.raceAim(rest, 2, 0), -1);
            due("raceAim(2, " + rest + ", 0)", x.raceAim(2, rest, 0), -1);
            due("settled(" + rest + ", 2)", x.settled(rest, 2), -1);
            due("settled(2, " + rest + ")", x.settled(2, rest), -1);
            due("percent(" + rest + ", 2)", x.percent(rest, 2), -1);
            due("percent(2, " + rest + ")", x.percent(2, rest), -1);
        }
        due("race(2, 2, 2)", x.race(2, 2, 2), NO);
        due("race(2, 2, -1)", x.race(2, 2, -1), NO);
        due("raceAim(2, 2, 2)", x.raceAim(2, 2, 2), -1);
        due("raceAim(2, 2, -1)", x.raceAim(2, 2, -1), -1);
        x.out(0);
        due("STRAIGHT: race(1, 1, 1)", x.race(1, 1, 1), ONE);
    }

    /** Both at 2, where only D1 counts: the SWEEPS by hand. */
    private static void raceOfEquals() {
        DartMind x = new DartMind();
        double odd = 720 / 1000.0;
        double stay = 280 / 1000.0;
        double a = 0.5;
        double b = 0.5;
        for (int sweep = 0; sweep < 12; sweep++) {
            a = odd + stay * (1.0 - b);
            b = odd + stay * (1.0 - a);
        }
        due("race(2, 2, 0) by hand", x.race(2, 2, 0), Double.doubleToRawLongBits(a));
        due("race(2, 2, 1) by hand", x.race(2, 2, 1), Double.doubleToRawLongBits(b));
        due("percent(2, 2) by hand", x.percent(2, 2), 78);
        x.hand(0, 0, 200);
        x.hand(0, 1, 200);
        x.hand(1, 0, 200);
        x.hand(1, 1, 200);
        due("settled(2, 2), slow ones", x.settled(2, 2), 0);
    }

    // 18
    private static void ways() {
        DartMind x = new DartMind();
        due("ways(170, 0)", x.ways(170, 0), 1);
        due("ways(170, 1)", x.ways(170, 1), 0);
        due("ways(2, 1)", x.ways(2, 1), 1);
        due("ways(2, 2)", x.ways(2, 2), 0);
        due("ways(3, 2)", x.ways(3, 2), 1);
        due("ways(4, 2), S2 D1 and D1 D1", x.ways(4, 2), 2);
        due("ways(4, 0), S1 S1 D1 too, and D2", x.ways(4, 0), 4);
        due("ways(60, 0)", x.ways(60, 0), 1398);
        due("ways(1, 0)", x.ways(1, 0), -1);
        due("ways(181, 0)", x.ways(181, 0), -1);
        due("ways(180, 4)", x.ways(180, 4), -1);
        due("ways(180, -1)", x.ways(180, -1), -1);
        x.out(2);
        due("MASTER: ways(180, 3)", x.ways(180, 3), 1);
        x.out(0);
        due("STRAIGHT: ways(1, 0)", x.ways(1, 0), 1);
        due("STRAIGHT: ways(2, 1)", x.ways(2, 1), 2);
        due("STRAIGHT: ways(0, 1)", x.ways(0, 1), -1);
    }

    // 19
    private static void way() {
        DartMind x = new DartMind();
        int[][] want = {{22}, {2, 21}, {21, 21}, {1, 1, 21}};
        for (int i = 0; i < want.length; i++) {
            due("way(4, " + i + ", -1)", x.way(4, i, -1), want[i].length);
            for (int j = 0; j < want[i].length; j++) {
                due("way(4, " + i + ", " + j + ")", x.way(4, i, j), want[i][j]);
            }
            due("way(4, " + i + ", its size)", x.way(4, i, want[i].length), -1);
        }
        due("way(4, 4, -1)", x.way(4, 4, -1), -1);
        due("way(4, -1, -1)", x.way(4, -1, -1), -1);
        due("way(4, 0, -2)", x.way(4, 0, -2), -1);
        due("way(169, 0, -1)", x.way(169, 0, -1), -1);
        due("way(1, 0, -1)", x.way(1, 0, -1), -1);
        due("way(181, 0, -1)", x.way(181, 0, -1), -1);
        x.out(0);
        due("STRAIGHT: way(1, 0, 0)", x.way(1, 0, 0), 1);
    }

    // 20, 32
    private static void spell() {
        DartMind x = new DartMind();
        due("spell(4, 3)", x.spell(4, 3), 8);
        CHECKS.holds("S1 S1 D1", paper(x).equals("S1 S1 D1"));
        due("spell(170, 0)", x.spell(170, 0), 10);
        CHECKS.holds("T20 T20 BU", paper(x).equals("T20 T20 BU"));
        due("paper(10)", x.paper(10), -1);
        due("paper(-1)", x.paper(-1), -1);
        due("spell(169, 0)", x.spell(169, 0), -1);
        due("spell(170, 1)", x.spell(170, 1), -1);
        due("spell(170, -1)", x.spell(170, -1), -1);
        due("spell(1, 0)", x.spell(1, 0), -1);
        due("spell(181, 0)", x.spell(181, 0), -1);
        CHECKS.holds("what is wrong leaves THE PAPER", paper(x).equals("T20 T20 BU"));
        due("MASTER", x.out(2), 1);
        due("MASTER: spell(180, 0)", x.spell(180, 0), 11);
        CHECKS.holds("T20 T20 T20", paper(x).equals("T20 T20 T20"));
        x.out(0);
        due("STRAIGHT: spell(25, 0)", x.spell(25, 0), 2);
        CHECKS.holds("OB", paper(x).equals("OB"));
        due("paper(2)", x.paper(2), -1);
    }

    // 21
    private static void start() {
        DartMind x = new DartMind();
        due("start(501)", x.start(501), 301);
        standing(x, "start", 0, 3, 501, 501);
        due("told(5)", x.told(5), 501);
        due("start(2)", x.start(2), 501);
        due("start(1)", x.start(1), -2);
        due("start(502)", x.start(502), -2);
        due("told(3)", x.told(3), 2);
        due("PLAYER 0 wins", x.thrown(21), 0);
        x.start(40);
        due("who began still begins", x.told(0), 1);
        x.thrown(1);
        x.thrown(1);
        due("start(40), as it was", x.start(40), 40);
        standing(x, "anew", 1, 3, 40, 40);
        due("THROWN stays", x.told(22), 2);
        due("POINTS stay", x.told(23), 2);
        due("LEGS stay", x.told(11), 1);
    }

    // 22
    private static void thrown() {
        DartMind x = new DartMind();
        x.start(60);
        due("thrown(63)", x.thrown(63), -1);
        due("thrown(-1)", x.thrown(-1), -1);
        due("thrown(0)", x.thrown(0), 60);
        due("thrown(10)", x.thrown(10), 50);
        standing(x, "two darts", 0, 1, 50, 60);
        due("told(5)", x.told(5), 60);
        due("thrown(60)", x.thrown(60), BUST);
        standing(x, "BUST", 1, 3, 60, 60);
        due("POINTS behind a BUST", x.told(13), 0);
        due("THROWN behind a BUST", x.told(12), 3);
        due("BUST at once", x.thrown(60), BUST);
        standing(x, "BUST by the first dart", 0, 3, 60, 60);
        x.thrown(1);
        x.thrown(2);
        due("thrown(3)", x.thrown(3), 54);
        standing(x, "VISIT over", 1, 3, 54, 60);
        due("POINTS", x.told(13), 6);
        x.thrown(20);
        due("won", x.thrown(40), 0);
        standing(x, "won", 1, 3, 60, 60);
        due("who began", x.told(2), 1);
        due("LEGS of PLAYER 1", x.told(21), 1);
        due("LEGS of PLAYER 0", x.told(11), 0);
        due("POINTS of PLAYER 1", x.told(23), 60);
        due("REST as the VISIT began", x.told(5), 60);
    }

    // 23, 25
    private static void throwsAt() {
        DartMind x = new DartMind();
        due("throwsAt(0)", x.throwsAt(0), -1);
        due("throwsAt(63)", x.throwsAt(63), -1);
        due("SEED stays", x.told(6), 1);
        due("throwsAt(1), 838 is drawn", x.throwsAt(1), 18);
        due("SEED", x.told(6), 1103527590);
        due("REST", x.told(10), 301 - 18);
        due("seed(2)", x.seed(2), 1103527590);
        due("throwsAt(1), 676 is drawn, no sign", x.throwsAt(1), 1);
        due("SEED wraps", x.told(6), -2087924461);
        due("seed(-7)", x.seed(-7), -2087924461);
        due("told(6)", x.told(6), -7);
        int drawn = -7 * 1103515245 + 12345 >>> 16;
        int d = drawn % 1000;
        x.hand(0, 0, 0);
        x.hand(0, 1, (1000 - d) / 4);
        due("BULL, just missed or not", x.throwsAt(62), 1000 - 2 * ((1000 - d) / 4) > d ? 62 : 61);
    }

    // 24
    private static void minds() {
        DartMind x = perfectBoth();
        x.start(170);
        due("minds(0)", x.minds(0), -2);
        due("minds(13)", x.minds(13), -2);
        due("minds(2)", x.minds(2), 0);
        due("REST", x.told(10), 50);
        due("minds(1)", x.minds(1), 1);
        due("minds(12), each wins at once", x.minds(12), 4);
        due("LEGS of PLAYER 0", x.told(11), 3);
        due("LEGS of PLAYER 1", x.told(21), 2);
        due("THROWN of PLAYER 0", x.told(12), 9);
        int seed = 1;
        for (int i = 0; i < 15; i++) {
            seed = seed * 1103515245 + 12345;
        }
        due("a draw for each dart", x.told(6), seed);
    }

    // 26
    private static void average() {
        DartMind x = new DartMind();
        due("average(0), none thrown", x.average(0), 0);
        x.thrown(60);
        due("average(0)", x.average(0), Float.floatToRawIntBits(180.0f));
        x.thrown(1);
        due("average(0)", x.average(0), Float.floatToRawIntBits(3.0f * 61.0f / 2.0f));
        x.thrown(19);
        x.thrown(0);
        due("average(1), no points", x.average(1), 0);
        x.thrown(7);
        x.thrown(3);
        due("average(0)", x.average(0), Float.floatToRawIntBits(3.0f * 80.0f / 3.0f));
        due("average(1)", x.average(1), Float.floatToRawIntBits(3.0f * 10.0f / 3.0f));
        due("average(2)", x.average(2), -1);
        due("average(-1)", x.average(-1), -1);
    }

    // 27
    private static void told() {
        DartMind x = new DartMind();
        x.hand(1, 0, 5);
        x.hand(1, 1, 6);
        x.thrown(60);
        x.feed(65);
        x.spell(2, 0);
        int[] whats = {0, 1, 2, 3, 4, 5, 6, 7, 8, 10, 11, 12, 13, 14, 15, 20, 21, 22, 23, 24, 25};
        int[] wants = {0, 2, 0, 301, 1, 301, 1, 1, 2, 241, 0, 1, 60, 60, 80, 301, 0, 0, 0, 5, 6};
        for (int i = 0; i < whats.length; i++) {
            due("told(" + whats[i] + ")", x.told(whats[i]), wants[i]);
        }
        int[] wrong = {-1, 9, 16, 17, 18, 19, 26, 30, Integer.MIN_VALUE, Integer.MAX_VALUE};
        for (int what : wrong) {
            due("told(" + what + ")", x.told(what), -1);
        }
    }

    // 28, 29
    private static void feed() {
        DartMind x = new DartMind();
        due("feed(0)", x.feed(0), -2);
        due("feed(128)", x.feed(128), -2);
        due("feed(-1)", x.feed(-1), -2);
        for (int i = 1; i <= 60; i++) {
            due("feed(127)", x.feed(127), i);
        }
        due("feed(1), full", x.feed(1), -4);
        due("feed(0), full", x.feed(0), -2);
        due("told(7)", x.told(7), 60);
        due("clear()", x.clear(), 60);
        due("clear()", x.clear(), 0);
        due("feed(1)", x.feed(1), 1);
    }

    // 30
    private static void judge() {
        DartMind x = new DartMind();
        due("T20 T20 BU", judge(x, "T20 T20 BU", 170), 2);
        due("told(7)", x.told(7), 0);
        due("T20 T20 BU S1", judge(x, "T20 T20 BU S1", 170), 202);
        due("leaves 140", judge(x, "T20 - S01", 201), 1140);
        due("leaves 1", judge(x, "S1 S1", 3), 101);
        due("OB leaves 25", judge(x, "OB OB", 50), 101);
        due("-", judge(x, "-", 2), 1002);
        feed(x, "D1");
        due("judge(1)", x.judge(1), -2);
        due("judge(502)", x.judge(502), -2);
        due("THE TAPE stays", x.told(7), 2);
        due("judge(2)", x.judge(2), 0);
        due("nothing is thrown", x.told(12), 0);
        x.out(0);
        due("STRAIGHT: 1", judge(x, "- S1", 1), 1);
    }

    /** The FAULTS of 4. */
    private static void faults() {
        String[] texts = {"", "S", "S0", "S00", "S21", "S99", "S5", "S05", "S005", "S200", "S2x", "S 1", "x", "O", "OU",
            "B", "BB", "OB", "BU", "OBU", "-", "--", "- ", "-  -", " -", "T20 D", "T20 D0x", "S0x", "T3 S21 x", "s1",
            "S1 T20 D20 OB BU - S9 T09 D", "S1,S2", "D1 T", "T20S1"};
        int[] faults = {0, 1, 1, 1, 1, 1, -1, -1, 1, 3, 2, 1, 0, 1, 1,
            1, 1, -1, -1, 2, -1, 1, 2, 2, 0, 5, 5, 1, 4, 0,
            27, 2, 4, 3};
        for (int i = 0; i < texts.length; i++) {
            DartMind x = new DartMind();
            feed(x, texts[i]);
            int got = x.judge(501);
            if (faults[i] == -1) {
                CHECKS.holds("'" + texts[i] + "' has no FAULT", got >= 0);
            } else {
                due("'" + texts[i] + "'", got, -100 - faults[i]);
            }
            due("THE TAPE behind '" + texts[i] + "'", x.told(7), 0);
        }
        DartMind x = new DartMind();
        due("OB", judge(x, "OB", 501), 1476);
        due("O where OB was", judge(x, "O", 501), -101);
        due("S12", judge(x, "S12", 501), 1489);
        due("S1 where S12 was", judge(x, "S1", 501), 1500);
        due("twelve", judge(x, "- - - - - - - - - - - -", 501), 1501);
        due("a thirteenth's blank", judge(x, "- - - - - - - - - - - - ", 501), -123);
        due("a thirteenth", judge(x, "- - - - - - - - - - - - -", 501), -123);
        due("no blank behind the twelfth", judge(x, "- - - - - - - - - - - -x", 501), -123);
        due("twelve long ones", judge(x, "T01 T01 T01 T01 T01 T01 T01 T01 T01 T01 T01 T01", 501), 1465);
    }

    // 31
    private static void play() {
        DartMind x = new DartMind();
        x.start(40);
        due("each wins", play(x, "D20 D20 D20"), 3);
        due("LEGS", x.told(11) * 10 + x.told(21), 21);
        due("S21", play(x, "D20 S21"), -105);
        due("told(7)", x.told(7), 0);
        due("nothing is thrown by a FAULT", x.told(12) + x.told(22), 3);
        due("BUST, then the other", play(x, "S1 S20 S18 D19"), 0);
        standing(x, "played", 0, 2, 2, 40);
        due("''", play(x, ""), -100);
    }

    // 33
    private static void rack() {
        DartMind x = new DartMind();
        due("rack(3, 5, 20)", x.rack(3, 5, 20), 1);
        due("laid(3, 19)", x.laid(3, 19), BUST);
        due("laid(3, 20)", x.laid(3, 20), -12);
        due("rack(4, 0, 0)", x.rack(4, 0, 0), -1);
        due("rack(-1, 0, 21)", x.rack(-1, 0, 21), -1);
        due("rack(0, 6, -1)", x.rack(0, 6, -1), -1);
        due("rack(0, -1, 0)", x.rack(0, -1, 0), -1);
        due("rack(0, 0, 21)", x.rack(0, 0, 21), -2);
        due("rack(0, 0, -1)", x.rack(0, 0, -1), -14);
        due("still missing", x.laid(0, 0), -11);
        x.lays(3, 0, 61);
        due("rack(3, 5, -1)", x.rack(3, 5, -1), -14);
        due("laid(3, 0)", x.laid(3, 0), 61);
        due("rack(3, 5, 2)", x.rack(3, 5, 2), 1);
        due("laid(3, 0), new places are empty", x.laid(3, 0), BUST);
        due("rack(3, 5, 0)", x.rack(3, 5, 0), 1);
        due("laid(3, 0), no places", x.laid(3, 0), -12);
    }

    // 34, 35
    private static void lays() {
        DartMind x = new DartMind();
        due("lays(0, 0, 1), missing", x.lays(0, 0, 1), -11);
        due("lays(0, 0, 63), missing", x.lays(0, 0, 63), -1);
        due("lays(4, 0, 1)", x.lays(4, 0, 1), -1);
        int[][] fits = {{0, 1, 21, 41, 61, 62}, {1, 20, 61}, {21, 40, 62}, {41, 60}, {62}, {61}};
        int[][] wrong = {{}, {0, 21, 41, 62}, {0, 20, 41, 61}, {0, 20, 40, 61, 62}, {0, 40, 61}, {0, 20, 62}};
        for (int kind = 0; kind <= 5; kind++) {
            x.rack(1, kind, 2);
            for (int spot : fits[kind]) {
                due("KIND " + kind + ": lays(1, 1, " + spot + ")", x.lays(1, 1, spot), 1);
                due("KIND " + kind + ": laid(1, 1)", x.laid(1, 1), spot);
            }
            for (int spot : wrong[kind]) {
                due("KIND " + kind + ": lays(1, 0, " + spot + ")", x.lays(1, 0, spot), -16);
                due("KIND " + kind + ": laid(1, 0)", x.laid(1, 0), BUST);
            }
        }
        due("lays(1, 1, NONE)", x.lays(1, 1, -1), 1);
        due("laid(1, 1)", x.laid(1, 1), BUST);
        due("lays(1, 2, 20)", x.lays(1, 2, 20), -12);
        due("lays(1, -1, -1)", x.lays(1, -1, -1), -12);
        due("lays(1, 0, -2)", x.lays(1, 0, -2), -1);
        due("laid(1, 2)", x.laid(1, 2), -12);
        due("laid(1, -1)", x.laid(1, -1), -12);
        due("laid(4, 0)", x.laid(4, 0), -1);
        due("laid(-1, 0)", x.laid(-1, 0), -1);
        due("laid(2, -1)", x.laid(2, -1), -11);
    }

    // 36
    private static void like() {
        DartMind x = new DartMind();
        x.rack(0, 2, 3);
        x.lays(0, 1, 62);
        due("like(1, 0)", x.like(1, 0), 3);
        due("laid(1, 1)", x.laid(1, 1), 62);
        due("laid(1, 0)", x.laid(1, 0), BUST);
        due("its KIND", x.lays(1, 0, 1), -16);
        x.lays(0, 1, 21);
        due("as it was then", x.laid(1, 1), 62);
        x.lays(1, 2, 30);
        due("a row of its own", x.laid(0, 2), BUST);
        due("like(1, 1)", x.like(1, 1), 3);
        due("laid(1, 2)", x.laid(1, 2), 30);
        due("like(1, 2), the other is missing", x.like(1, 2), -11);
        due("laid(1, 1) still", x.laid(1, 1), 62);
        due("like(2, 2)", x.like(2, 2), -11);
        due("like(4, 0)", x.like(4, 0), -1);
        due("like(0, 4)", x.like(0, 4), -1);
        due("like(-1, 2)", x.like(-1, 2), -1);
        x.rack(3, 0, 0);
        due("like(0, 3)", x.like(0, 3), 0);
        due("laid(0, 0)", x.laid(0, 0), -12);
    }

    // 37
    private static void judged() {
        DartMind x = new DartMind();
        x.rack(0, 0, 5);
        x.lays(0, 1, 60);
        x.lays(0, 3, 40);
        due("empty places left out", x.judged(0, 0, 100), 1);
        due("from 1 on", x.judged(0, 1, 100), 1);
        due("from 2 on", x.judged(0, 2, 40), 0);
        due("from the size on", x.judged(0, 5, 40), 1040);
        due("from behind the size on", x.judged(0, 6, 40), -12);
        due("from -1 on", x.judged(0, -1, 40), -12);
        due("BUST", x.judged(0, 0, 101), 101);
        x.lays(0, 4, 0);
        due("not the last", x.judged(0, 0, 100), 201);
        due("neither", x.judged(0, 0, 501), 1401);
        due("judged(0, 6, 1)", x.judged(0, 6, 1), -2);
        due("judged(0, 0, 502)", x.judged(0, 0, 502), -2);
        due("judged(1, 0, 502)", x.judged(1, 0, 502), -2);
        due("judged(1, 9, 501)", x.judged(1, 9, 501), -11);
        due("judged(4, 0, 0)", x.judged(4, 0, 0), -1);
        x.rack(1, 3, 0);
        due("no places", x.judged(1, 0, 77), 1077);
        due("nothing is thrown", x.told(12), 0);
    }

    // 38, 39
    private static void image() {
        DartMind x = new DartMind();
        x.out(2);
        x.start(60);
        x.thrown(60);
        x.thrown(10);
        x.hand(1, 0, 33);
        x.seed(99);
        long dartsThen = x.darts(1, 100);
        long raceThen = x.race(9, 9, 1);
        due("image()", x.image(), 1);
        x.thrown(50);
        x.thrown(60);
        x.hand(0, 1, 3);
        x.hand(1, 0, 4);
        x.seed(5);
        x.start(7);
        x.out(0);
        x.darts(1, 100);
        x.race(9, 9, 1);
        x.feed(45);
        x.spell(40, 0);
        x.rack(2, 0, 1);
        due("undo()", x.undo(), 1);
        int[] whats = {0, 1, 2, 3, 4, 5, 6, 7, 8, 10, 11, 12, 13, 14, 15, 20, 21, 22, 23, 24, 25};
        int[] wants = {1, 2, 1, 60, 2, 60, 99, 1, 3, 60, 1, 1, 60, 60, 80, 50, 0, 1, 10, 33, 80};
        for (int i = 0; i < whats.length; i++) {
            due("undone: told(" + whats[i] + ")", x.told(whats[i]), wants[i]);
        }
        due("undone: darts(1, 100)", x.darts(1, 100), dartsThen);
        due("undone: race(9, 9, 1)", x.race(9, 9, 1), raceThen);
        due("RACKS stay", x.laid(2, 0), BUST);
        x.thrown(50);
        x.thrown(60);
        due("undo() again", x.undo(), 1);
        due("as THE IMAGE still", x.told(20), 50);
        x.thrown(40);
        x.thrown(30);
        x.image();
        x.start(100);
        x.undo();
        due("the latest THE IMAGE", x.told(3), 60);
    }
}
