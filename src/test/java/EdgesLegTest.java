/** The boundary cases of promises 21 to 27: THE LEG, draws, THE MIND, AVERAGE, and what is told. */
public final class EdgesLegTest {
    private static final int BUST = -5;
    private static final int MIN = Integer.MIN_VALUE, MAX = Integer.MAX_VALUE;
    private static final Edges E = new Edges("EdgesLegTest");

    public static void main(String[] args) {
        start();
        thrownNumbers();
        visits();
        busts();
        wins();
        drawNumbers();
        drawEdges();
        minds();
        seed();
        average();
        told();
        E.end(21, 22, 23, 24, 25, 26, 27);
    }

    /** Who is to throw, LEFT, who began, both RESTS, REST as the VISIT began. */
    private static void standing(DartMind x, int turn, int left, int began, int rest0, int rest1, int visit) {
        int[] whats = {0, 1, 2, 10, 20, 5};
        int[] wants = {turn, left, began, rest0, rest1, visit};
        for (int i = 0; i < whats.length; i++) {
            E.due("told(" + whats[i] + ")", x.told(whats[i]), wants[i]);
        }
    }

    private static DartMind from(int start) {
        DartMind x = new DartMind();
        x.start(start);
        return x;
    }

    private static void row(DartMind x, int... spots) {
        for (int spot : spots) {
            x.thrown(spot);
        }
    }

    private static void start() {
        E.test(21, "START is 2 .. 501; 1 and 502 are BAD", () -> {
            DartMind x = new DartMind();
            E.due("start(2)", x.start(2), 301);
            standing(x, 0, 3, 0, 2, 2, 2);
            E.due("start(501)", x.start(501), 2);
            standing(x, 0, 3, 0, 501, 501, 501);
            for (int start : new int[] {1, 502, 0, -1, MIN, MAX}) {
                E.refused("start(" + start + ")", -2, y -> y.start(start));
            }
        });
        E.test(21, "1 is BAD also by STRAIGHT", () -> E.refused("start(1)", -2, y -> y.start(1), Scene.ONE));
        E.test(21, "told as it was, too, it begins THE LEG anew", () -> {
            DartMind x = from(101);
            row(x, 20, 20);
            E.due("start(101)", x.start(101), 101);
            standing(x, 0, 3, 0, 101, 101, 101);
        });
        E.test(21, "the one who began it is to throw with 3 LEFT", () -> {
            DartMind x = from(40);
            row(x, 40);
            row(x, 1, 1, 1, 2);
            standing(x, 0, 2, 1, 38, 37, 40);
            x.start(60);
            standing(x, 1, 3, 1, 60, 60, 60);
        });
        E.test(21, "LEGS, THROWN, POINTS and SEED are no part of it", () -> {
            DartMind x = from(40);
            row(x, 40, 1);
            x.seed(5);
            x.start(70);
            int[] whats = {11, 12, 13, 21, 22, 23, 6};
            int[] wants = {1, 1, 40, 0, 1, 1, 5};
            for (int i = 0; i < whats.length; i++) {
                E.due("told(" + whats[i] + ")", x.told(whats[i]), wants[i]);
            }
        });
        E.test(21, "both RESTS are START again behind a LEG that is won", () -> {
            DartMind x = from(40);
            row(x, 1, 1, 1, 40);
            standing(x, 1, 3, 1, 40, 40, 40);
        });
    }

    private static void thrownNumbers() {
        E.test(22, "SPOTS are 0 .. 62; -1 and 63 are NONE", () -> {
            DartMind x = new DartMind();
            E.due("thrown(0)", x.thrown(0), 301);
            E.due("thrown(62)", x.thrown(62), 251);
            for (int spot : new int[] {-1, 63, MIN, MAX}) {
                E.refused("thrown(" + spot + ")", -1, y -> y.thrown(spot));
            }
        });
        E.test(22, "OUTSIDE is a DART, too", () -> {
            DartMind x = new DartMind();
            E.due("thrown(0)", x.thrown(0), 301);
            E.due("THROWN", x.told(12), 1);
            E.due("LEFT", x.told(1), 2);
        });
    }

    private static void visits() {
        E.test(22, "a VISIT is over behind its third DART, not ahead of it; 3 are LEFT then", () -> {
            DartMind x = new DartMind();
            row(x, 1);
            standing(x, 0, 2, 0, 300, 301, 301);
            row(x, 1);
            standing(x, 0, 1, 0, 299, 301, 301);
            row(x, 1);
            standing(x, 1, 3, 0, 298, 301, 301);
            row(x, 0, 0, 0);
            standing(x, 0, 3, 0, 298, 301, 298);
        });
        E.test(22, "it answers the REST of the one who threw, also if the VISIT is over by that", () -> {
            DartMind x = new DartMind();
            row(x, 60, 60);
            E.due("the third DART", x.thrown(60), 121);
            E.due("the other's first", x.thrown(1), 300);
        });
    }

    private static void busts() {
        for (int ahead = 0; ahead <= 2; ahead++) {
            int before = ahead;
            E.test(22, "BUST by DART " + (before + 1) + ": the REST as the VISIT began, the VISIT is over", () -> {
                DartMind x = from(61);
                for (int i = 0; i < before; i++) {
                    x.thrown(20);
                }
                E.due("thrown(60)", x.thrown(60), BUST);
                standing(x, 1, 3, 0, 61, 61, 61);
                E.due("THROWN", x.told(12), before + 1);
                E.due("POINTS, given back", x.told(13), 0);
            });
        }
        E.test(22, "a BUST gives back what its VISIT took, and no more", () -> {
            DartMind x = from(101);
            row(x, 20, 20, 1, 0, 0, 0, 19, 1);
            E.due("POINTS", x.told(13), 61);
            E.due("thrown(60)", x.thrown(60), BUST);
            E.due("POINTS behind", x.told(13), 41);
            standing(x, 1, 3, 0, 60, 101, 101);
        });
        E.test(22, "below 0, 0 by a SINGLE, and 1 are BUST; 2 is none", () -> {
            E.due("below 0", from(2).thrown(3), BUST);
            E.due("0 by a SINGLE", from(2).thrown(2), BUST);
            E.due("1", from(2).thrown(1), BUST);
            E.due("2", from(3).thrown(1), 2);
        });
        E.test(22, "by STRAIGHT 1 is none, and 0 by any SPOT wins", () -> {
            DartMind x = from(3);
            x.out(0);
            E.due("to 1", x.thrown(2), 1);
            E.due("below 0", x.thrown(2), BUST);
            E.due("0 by a TREBLE", x.thrown(41), 0);
        });
        E.test(22, "by MASTER 0 by a TREBLE wins", () -> {
            DartMind x = from(60);
            x.out(2);
            E.due("T20", x.thrown(60), 0);
            E.due("S20 of 60", x.thrown(20), 40);
            E.due("S20", x.thrown(20), 20);
            E.due("0 by a SINGLE", x.thrown(20), BUST);
        });
    }

    private static void wins() {
        for (int ahead = 0; ahead <= 2; ahead++) {
            int before = ahead;
            E.test(22, "won by DART " + (before + 1) + ": LEGS 1 more, RESTS are START, the other begins", () -> {
                DartMind x = from(40);
                for (int i = 0; i < before; i++) {
                    x.thrown(0);
                }
                E.due("thrown(40)", x.thrown(40), 0);
                standing(x, 1, 3, 1, 40, 40, 40);
                E.due("LEGS of PLAYER 0", x.told(11), 1);
                E.due("LEGS of PLAYER 1", x.told(21), 0);
                E.due("POINTS", x.told(13), 40);
                E.due("THROWN", x.told(12), before + 1);
            });
        }
        E.test(22, "the other one than the one who BEGAN, whoever won", () -> {
            DartMind x = from(40);
            row(x, 0, 0, 0);
            E.due("PLAYER 1 wins", x.thrown(40), 0);
            standing(x, 1, 3, 1, 40, 40, 40);
            E.due("PLAYER 1 wins again", x.thrown(40), 0);
            standing(x, 0, 3, 0, 40, 40, 40);
            row(x, 40);
            standing(x, 1, 3, 1, 40, 40, 40);
            E.due("LEGS of PLAYER 0", x.told(11), 1);
            E.due("LEGS of PLAYER 1", x.told(21), 2);
        });
    }

    // ---- draws ----

    private static int next(int seed) {
        return (int) (seed * 1103515245L + 12345L);
    }

    private static int drawn(int seed) {
        return (int) ((next(seed) & 0xFFFFFFFFL) / 65536L % 1000L);
    }

    /** The first SEED from which so much is drawn. */
    private static int seedFor(int d) {
        for (int seed = 0; seed < 10_000_000; seed++) {
            if (drawn(seed) == d) {
                return seed;
            }
        }
        return -1;
    }

    private static void drawNumbers() {
        E.test(23, "an AIM is 1 .. 62; 0 and 63 are NONE, and nothing is drawn", () -> {
            DartMind x = new DartMind();
            E.holds("throwsAt(1)", x.throwsAt(1) > 0);
            E.holds("throwsAt(62)", x.throwsAt(62) > 0);
            for (int aim : new int[] {0, 63, -1, MIN, MAX}) {
                E.refused("throwsAt(" + aim + ")", -1, y -> y.throwsAt(aim));
            }
        });
        E.test(23, "SEED times 1103515245, plus 12345, wraps as an int", () -> {
            for (int seed : new int[] {0, 1, -1, MIN, MAX, 1 << 30, 65535}) {
                DartMind x = new DartMind();
                x.seed(seed);
                x.throwsAt(20);
                E.due("SEED behind " + seed, x.told(6), next(seed));
            }
        });
        E.test(23, "the upper 16 bits bear no sign", () -> {
            for (int seed = 1; seed <= 40; seed++) {
                DartMind x = new DartMind();
                x.seed(seed);
                E.due("throwsAt(62) by SEED " + seed, x.throwsAt(62), drawn(seed) < 720 ? 62 : 61);
            }
        });
    }

    private static void drawEdges() {
        E.test(23, "the first FALL of which the WEIGHTS so far are ABOVE d: beside each edge", () -> {
            // AIM S20: 720, 780, 840, 920, 1000.
            int[] ds = {0, 719, 720, 779, 780, 839, 840, 919, 920, 999};
            int[] spots = {20, 20, 5, 5, 1, 1, 60, 60, 40, 40};
            for (int i = 0; i < ds.length; i++) {
                DartMind x = new DartMind();
                x.seed(seedFor(ds[i]));
                E.due("d " + ds[i], x.throwsAt(20), spots[i]);
            }
        });
        E.test(23, "a FALL of WEIGHT 0 is fallen upon by no d", () -> {
            DartMind x = new DartMind();
            x.hand(0, 0, 0);
            x.seed(seedFor(839));
            E.due("d 839", x.throwsAt(20), 20);
            x.seed(seedFor(840));
            E.due("d 840", x.throwsAt(20), 60);
        });
        E.test(23, "OUTSIDE by the last d at a DOUBLE", () -> {
            DartMind x = new DartMind();
            x.seed(seedFor(919));
            E.due("d 919", x.throwsAt(40), 20);
            x.seed(seedFor(920));
            E.due("d 920", x.throwsAt(40), 0);
            x.seed(seedFor(999));
            E.due("d 999", x.throwsAt(40), 0);
            E.due("REST", x.told(10), 281);
        });
        E.test(23, "by the hand of the one who is to throw", () -> {
            DartMind x = new DartMind();
            x.hand(1, 0, 0);
            x.hand(1, 1, 0);
            x.seed(seedFor(999));
            E.due("PLAYER 0", x.throwsAt(20), 40);
            row(x, 0, 0);
            x.seed(seedFor(999));
            E.due("PLAYER 1", x.throwsAt(20), 20);
        });
        E.test(23, "it answers the SPOT, also if that is BUST or wins", () -> {
            DartMind x = from(40);
            x.seed(seedFor(0));
            E.due("wins", x.throwsAt(40), 40);
            E.due("LEGS", x.told(11), 1);
            x.seed(seedFor(0));
            E.due("BUST", x.throwsAt(60), 60);
            standing(x, 0, 3, 1, 40, 40, 40);
        });
    }

    // ---- THE MIND ----

    private static DartMind sure(int start) {
        DartMind x = from(start);
        for (int i = 0; i < 4; i++) {
            x.hand(i / 2, i % 2, 0);
        }
        return x;
    }

    private static void minds() {
        E.test(24, "n is 1 .. 12; 0 and 13 are BAD", () -> {
            DartMind x = sure(40);
            E.due("minds(1)", x.minds(1), 1);
            E.due("minds(12)", x.minds(12), 12);
            for (int n : new int[] {0, 13, -1, MIN, MAX}) {
                E.refused("minds(" + n + ")", -2, y -> y.minds(n));
            }
        });
        E.test(24, "just n darts, each with a draw of its own", () -> {
            DartMind x = new DartMind();
            x.minds(12);
            E.due("THROWN of both", x.told(12) + x.told(22), 12);
            int seed = 1;
            for (int i = 0; i < 12; i++) {
                seed = next(seed);
            }
            E.due("SEED", x.told(6), seed);
        });
        E.test(24, "in turn by THE MIND of each, over the ends of VISITS and LEGS", () -> {
            DartMind x = sure(170);
            E.due("minds(3)", x.minds(3), 1);
            standing(x, 1, 3, 1, 170, 170, 170);
            E.due("minds(4)", x.minds(4), 1);
            standing(x, 0, 2, 0, 110, 170, 170);
            E.due("LEGS of PLAYER 0", x.told(11), 1);
            E.due("LEGS of PLAYER 1", x.told(21), 1);
        });
        E.test(24, "LEGS won by them, not all LEGS", () -> {
            DartMind x = sure(40);
            x.minds(5);
            E.due("minds(2)", x.minds(2), 2);
            E.due("LEGS", x.told(11) + x.told(21), 7);
        });
        E.test(24, "at a REST of 1 by STRAIGHT, too", () -> {
            DartMind x = Scene.ONE.make();
            for (int i = 0; i < 4; i++) {
                x.hand(i / 2, i % 2, 0);
            }
            E.due("minds(1)", x.minds(1), 1);
        });
    }

    private static void seed() {
        E.test(25, "any int, and it answers what was, 1 at first", () -> {
            DartMind x = new DartMind();
            E.due("seed(max)", x.seed(MAX), 1);
            E.due("seed(min)", x.seed(MIN), MAX);
            E.due("seed(-1)", x.seed(-1), MIN);
            E.due("seed(0)", x.seed(0), -1);
            E.due("seed(0)", x.seed(0), 0);
        });
        E.test(25, "nothing but SEED becomes another", () -> {
            DartMind x = Scene.BUSY.make();
            x.seed(1234);
            x.seed(99);
            E.same("all else", Scene.read(x), Scene.read(Scene.BUSY.make()));
        });
    }

    private static void average() {
        E.test(26, "PLAYERS are 0 and 1; -1 and 2 are NONE", () -> {
            for (int player : new int[] {-1, 2, MIN, MAX}) {
                E.refused("average(" + player + ")", -1, y -> y.average(player));
            }
        });
        E.test(26, "0.0f, if none was thrown", () -> {
            DartMind x = new DartMind();
            x.thrown(60);
            E.due("average(1)", x.average(1), Float.floatToRawIntBits(0.0f));
            E.due("average(0)", x.average(0), Float.floatToRawIntBits(180.0f));
        });
        E.test(26, "0.0f, too, if darts made no POINTS", () -> {
            DartMind x = new DartMind();
            row(x, 0, 0);
            E.due("average(0)", x.average(0), Float.floatToRawIntBits(0.0f));
        });
        E.test(26, "DARTS that were BUST count as THROWN, what they gave back does not", () -> {
            DartMind x = from(41);
            row(x, 1, 60, 0, 0, 0, 7);
            E.due("average(0)", x.average(0), Float.floatToRawIntBits(3.0f * 7.0f / 3.0f));
        });
        E.test(26, "a float, each step the nearest", () -> {
            DartMind x = new DartMind();
            row(x, 60, 1, 0, 0, 0, 0, 1, 1, 1, 0, 0, 0, 57);
            E.due("average(0)", x.average(0), Float.floatToRawIntBits(3.0f * 115.0f / 7.0f));
        });
        E.test(26, "what is asked changes nothing", () -> E.asked("average(0)", y -> y.average(0)));
    }

    private static void told() {
        E.test(27, "0 .. 8, 10 .. 15, 20 .. 25 are answered", () -> {
            DartMind x = Scene.BUSY.make();
            int[] whats = {0, 1, 2, 3, 4, 5, 6, 7, 8, 10, 11, 12, 13, 14, 15, 20, 21, 22, 23, 24, 25};
            int[] wants = {0, 1, 1, 101, 2, 101, 99, 5, 6, 68, 0, 3, 33, 31, 80, 75, 1, 5, 86, 60, 47};
            wants[8] = Scene.paper(x).length();
            for (int i = 0; i < whats.length; i++) {
                E.due("told(" + whats[i] + ")", x.told(whats[i]), wants[i]);
            }
        });
        E.test(27, "beside them all is NONE", () -> {
            for (int what : new int[] {-1, 9, 16, 19, 26, MIN, MAX}) {
                E.refused("told(" + what + ")", -1, y -> y.told(what));
            }
        });
        E.test(27, "a SEED may be what NONE is, too", () -> {
            DartMind x = new DartMind();
            x.seed(-1);
            E.due("told(6)", x.told(6), -1);
        });
        E.test(27, "bytes of THE TAPE and of THE PAPER: 0 at first, up to 60 and 11", () -> {
            DartMind x = Scene.FULL.make();
            E.due("told(7)", x.told(7), 60);
            E.due("told(8)", x.told(8), 0);
            x.out(2);
            x.spell(180, 0);
            E.due("told(8)", x.told(8), 11);
            x.clear();
            E.due("told(7)", x.told(7), 0);
        });
        E.test(27, "what is asked changes nothing", () -> {
            for (int what = 0; what <= 25; what++) {
                int which = what;
                E.asked("told(" + what + ")", y -> y.told(which), Scene.BUSY);
            }
        });
    }
}
