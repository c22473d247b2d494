/** The boundary cases of promises 1 to 7: a new object, the board, the hands, OUT. */
public final class EdgesBoardTest {
    private static final int BUST = -5;
    private static final int MIN = Integer.MIN_VALUE, MAX = Integer.MAX_VALUE;
    private static final int[] RING = {20, 1, 18, 4, 13, 6, 10, 15, 2, 17, 3, 19, 7, 16, 8, 11, 14, 9, 12, 5};
    private static final Edges E = new Edges("EdgesBoardTest");

    public static void main(String[] args) {
        newObject();
        spot();
        under();
        hand();
        fallNumbers();
        fallWeights();
        out();
        fallsNumbers();
        fallsBust();
        E.end(1, 2, 3, 4, 5, 6, 7);
    }

    private static void newObject() {
        E.test(1, "START is 301, and both RESTS are", () -> {
            DartMind x = new DartMind();
            E.due("told(3)", x.told(3), 301);
            E.due("told(10)", x.told(10), 301);
            E.due("told(20)", x.told(20), 301);
            E.due("told(5)", x.told(5), 301);
        });
        E.test(1, "OUT by a DOUBLE", () -> {
            DartMind x = new DartMind();
            E.due("told(4)", x.told(4), 1);
            E.due("falls(60, 60)", x.falls(60, 60), BUST);
            E.due("falls(40, 40)", x.falls(40, 40), 0);
        });
        E.test(1, "PLAYERS alike: SIDE 60, R 80, nothing thrown or won", () -> {
            DartMind x = new DartMind();
            for (int player = 10; player <= 20; player += 10) {
                int[] wants = {301, 0, 0, 0, 60, 80};
                for (int i = 0; i < wants.length; i++) {
                    E.due("told(" + (player + i) + ")", x.told(player + i), wants[i]);
                }
            }
        });
        E.test(1, "PLAYER 0 is to throw, began, and has 3 LEFT; SEED is 1", () -> {
            DartMind x = new DartMind();
            E.due("told(0)", x.told(0), 0);
            E.due("told(1)", x.told(1), 3);
            E.due("told(2)", x.told(2), 0);
            E.due("told(6)", x.told(6), 1);
        });
        E.test(1, "THE TAPE, THE PAPER are empty, RACKS missing, no IMAGE", () -> {
            DartMind x = new DartMind();
            E.due("told(7)", x.told(7), 0);
            E.due("told(8)", x.told(8), 0);
            for (int rack = 0; rack < 4; rack++) {
                E.due("laid(" + rack + ", 0)", x.laid(rack, 0), -11);
            }
            E.due("undo()", x.undo(), -3);
        });
        E.test(1, "an object shares nothing with another one", () -> {
            DartMind x = Scene.BUSY.make();
            E.same("a new one behind another", Scene.read(new DartMind()), Scene.read(Scene.FRESH.make()));
            E.due("told(3) of the other", x.told(3), 101);
        });
        E.test(1, "the 512th call is still answered", () -> {
            DartMind x = new DartMind();
            for (int i = 1; i <= 511; i++) {
                x.thrown(0);
            }
            E.due("told(22)", x.told(22), 255);
        });
    }

    private static void spot() {
        E.test(2, "SPOTS 0 and 62 are the last on both sides, -1 and 63 are NONE", () -> {
            DartMind x = new DartMind();
            E.due("spot(0, 0)", x.spot(0, 0), 0);
            E.due("spot(62, 0)", x.spot(62, 0), 50);
            for (int spot : new int[] {-1, 63, MIN, MAX}) {
                E.refused("spot(" + spot + ", 0)", -1, y -> y.spot(spot, 0));
            }
        });
        E.test(2, "what 0 and 3 are the last on both sides, -1 and 4 are NONE", () -> {
            DartMind x = new DartMind();
            E.due("spot(20, 0)", x.spot(20, 0), 20);
            E.due("spot(20, 3)", x.spot(20, 3), 5);
            for (int what : new int[] {-1, 4, MIN, MAX}) {
                E.refused("spot(20, " + what + ")", -1, y -> y.spot(20, what));
            }
        });
        E.test(2, "SCORES at the ends of SINGLE, DOUBLE, TREBLE; OUTER 25, BULL 50", () -> {
            int[] spots = {1, 20, 21, 40, 41, 60, 61, 62};
            int[] wants = {1, 20, 2, 40, 3, 60, 25, 50};
            for (int i = 0; i < spots.length; i++) {
                E.due("spot(" + spots[i] + ", 0)", new DartMind().spot(spots[i], 0), wants[i]);
            }
        });
        E.test(2, "KINDS at the ends of SINGLE, DOUBLE, TREBLE; OUTSIDE is just a SPOT", () -> {
            int[] spots = {0, 1, 20, 21, 40, 41, 60, 61, 62};
            int[] wants = {0, 1, 1, 2, 2, 3, 3, 5, 4};
            for (int i = 0; i < spots.length; i++) {
                E.due("spot(" + spots[i] + ", 1)", new DartMind().spot(spots[i], 1), wants[i]);
            }
        });
        E.test(2, "THE RING: behind 5 comes 20 again, and ahead of 20 stands 5", () -> {
            DartMind x = new DartMind();
            for (int below = 0; below <= 40; below += 20) {
                E.due("RIGHT of 5", x.spot(5 + below, 2), 20);
                E.due("LEFT of 20", x.spot(20 + below, 3), 5);
                E.due("RIGHT of 20", x.spot(20 + below, 2), 1);
                E.due("LEFT of 5", x.spot(5 + below, 3), 12);
            }
        });
        E.test(2, "each number's RIGHT is the next one in THE RING, LEFT the other way", () -> {
            DartMind x = new DartMind();
            for (int i = 0; i < 20; i++) {
                for (int below = 0; below <= 40; below += 20) {
                    E.due("RIGHT of " + RING[i], x.spot(RING[i] + below, 2), RING[(i + 1) % 20]);
                    E.due("LEFT of " + RING[i], x.spot(RING[i] + below, 3), RING[(i + 19) % 20]);
                }
            }
        });
        E.test(2, "OUTSIDE, OUTER and BULL have no number beside them: 0", () -> {
            for (int spot : new int[] {0, 61, 62}) {
                E.due("spot(" + spot + ", 2)", new DartMind().spot(spot, 2), 0);
                E.due("spot(" + spot + ", 3)", new DartMind().spot(spot, 3), 0);
            }
        });
        E.test(2, "what is asked changes nothing", () -> E.asked("spot(62, 3)", y -> y.spot(62, 3)));
    }

    private static void under() {
        E.test(3, "SPOTS -1 and 63 are NONE, 0 and 62 are not", () -> {
            DartMind x = new DartMind();
            E.due("under(0, 0)", x.under(0, 0), 1);
            E.due("under(62, 0)", x.under(62, 0), 1);
            E.refused("under(-1, 0)", -1, y -> y.under(-1, 0));
            E.refused("under(63, 0)", -1, y -> y.under(63, 0));
        });
        E.test(3, "KINDS -1 and 6 are NONE, 0 and 5 are not", () -> {
            DartMind x = new DartMind();
            E.due("under(61, 0)", x.under(61, 0), 1);
            E.due("under(61, 5)", x.under(61, 5), 1);
            E.refused("under(61, -1)", -1, y -> y.under(61, -1));
            E.refused("under(61, 6)", -1, y -> y.under(61, 6));
        });
        E.test(3, "BULL is under DOUBLE, OUTER under SINGLE, and not the other way", () -> {
            DartMind x = new DartMind();
            E.due("under(62, 2)", x.under(62, 2), 1);
            E.due("under(62, 1)", x.under(62, 1), 0);
            E.due("under(62, 5)", x.under(62, 5), 0);
            E.due("under(61, 1)", x.under(61, 1), 1);
            E.due("under(61, 2)", x.under(61, 2), 0);
            E.due("under(61, 4)", x.under(61, 4), 0);
            E.due("a DOUBLE is no BULL", x.under(40, 4), 0);
            E.due("a SINGLE is no OUTER", x.under(20, 5), 0);
        });
        E.test(3, "OUTSIDE is just a SPOT", () -> {
            for (int kind = 1; kind <= 5; kind++) {
                E.due("under(0, " + kind + ")", new DartMind().under(0, kind), 0);
            }
        });
        E.test(3, "a KIND begins and ends with its first and last number", () -> {
            DartMind x = new DartMind();
            int[] ends = {1, 20, 21, 40, 41, 60};
            for (int i = 0; i < ends.length; i++) {
                for (int kind = 1; kind <= 3; kind++) {
                    E.due("under(" + ends[i] + ", " + kind + ")", x.under(ends[i], kind), i / 2 + 1 == kind ? 1 : 0);
                }
            }
        });
        E.test(3, "what is asked changes nothing", () -> E.asked("under(62, 2)", y -> y.under(62, 2)));
    }

    private static void hand() {
        E.test(4, "PLAYERS are 0 and 1; -1 and 2 are NONE", () -> {
            DartMind x = new DartMind();
            E.due("hand(0, 0, 1)", x.hand(0, 0, 1), 60);
            E.due("hand(1, 0, 2)", x.hand(1, 0, 2), 60);
            E.refused("hand(-1, 0, 5)", -1, y -> y.hand(-1, 0, 5));
            E.refused("hand(2, 0, 5)", -1, y -> y.hand(2, 0, 5));
        });
        E.test(4, "what is 0 or 1; -1 and 2 are NONE", () -> {
            DartMind x = new DartMind();
            E.due("hand(0, 0, 1)", x.hand(0, 0, 1), 60);
            E.due("hand(0, 1, 2)", x.hand(0, 1, 2), 80);
            E.refused("hand(0, -1, 5)", -1, y -> y.hand(0, -1, 5));
            E.refused("hand(0, 2, 5)", -1, y -> y.hand(0, 2, 5));
        });
        for (int what = 0; what <= 1; what++) {
            int which = what;
            E.test(4, (which == 0 ? "SIDE" : "R") + " is 0 .. 200; -1 and 201 are BAD", () -> {
                DartMind x = new DartMind();
                x.hand(1, which, 0);
                E.due("hand behind 0", x.hand(1, which, 200), 0);
                E.due("hand behind 200", x.hand(1, which, 7), 200);
                for (int v : new int[] {-1, 201, MIN, MAX}) {
                    E.refused("hand(1, " + which + ", " + v + ")", -2, y -> y.hand(1, which, v));
                }
            });
        }
        E.test(4, "NONE comes ahead of BAD", () -> {
            E.refused("hand(2, 0, 201)", -1, y -> y.hand(2, 0, 201));
            E.refused("hand(0, 2, -1)", -1, y -> y.hand(0, 2, -1));
        });
        E.test(4, "it answers what was, also if that is the same", () -> {
            DartMind x = new DartMind();
            E.due("hand(0, 0, 60)", x.hand(0, 0, 60), 60);
            E.due("hand(0, 0, 61)", x.hand(0, 0, 61), 60);
            E.due("hand(0, 0, 61)", x.hand(0, 0, 61), 61);
        });
        E.test(4, "just that one of that PLAYER becomes another", () -> {
            DartMind x = new DartMind();
            x.hand(1, 1, 3);
            E.due("told(14)", x.told(14), 60);
            E.due("told(15)", x.told(15), 80);
            E.due("told(24)", x.told(24), 60);
            E.due("told(25)", x.told(25), 3);
        });
        E.test(4, "the hand is at once what DARTS, CHANCE, THE RACE are worked out by", () -> {
            DartMind x = new DartMind();
            DartMind y = new DartMind();
            x.darts(0, 40);
            x.chance(0, 40, 2);
            x.race(4, 4, 1);
            x.hand(0, 0, 11);
            y.hand(0, 0, 11);
            E.due("darts(0, 40)", x.darts(0, 40), y.darts(0, 40));
            E.due("chance(0, 40, 2)", x.chance(0, 40, 2), y.chance(0, 40, 2));
            E.due("race(4, 4, 1)", x.race(4, 4, 1), y.race(4, 4, 1));
            E.holds("another than by the hand at first", x.darts(0, 40) != new DartMind().darts(0, 40));
        });
    }

    private static void fallNumbers() {
        E.test(5, "PLAYERS -1 and 2 are NONE", () -> {
            E.refused("fall(-1, 1, 0, 0)", -1, y -> y.fall(-1, 1, 0, 0));
            E.refused("fall(2, 1, 0, 0)", -1, y -> y.fall(2, 1, 0, 0));
            E.refused("fall(2, 1, -1, 0)", -1, y -> y.fall(2, 1, -1, 0));
        });
        E.test(5, "an AIM is 1 .. 62; 0 and 63 are NONE", () -> {
            DartMind x = new DartMind();
            E.due("fall(0, 1, 0, 0)", x.fall(0, 1, 0, 0), 1);
            E.due("fall(1, 62, 0, 0)", x.fall(1, 62, 0, 0), 62);
            for (int aim : new int[] {0, 63, -1, MIN, MAX}) {
                E.refused("fall(0, " + aim + ", 0, 0)", -1, y -> y.fall(0, aim, 0, 0));
                E.refused("fall(0, " + aim + ", -1, 0)", -1, y -> y.fall(0, aim, -1, 0));
            }
        });
        E.test(5, "FALL i is 0 up to one less than there are; the number behind is NONE", () -> {
            int[] aims = {1, 20, 21, 40, 41, 60, 61, 62};
            int[] counts = {5, 5, 5, 5, 4, 4, 5, 2};
            for (int i = 0; i < aims.length; i++) {
                int aim = aims[i];
                int count = counts[i];
                E.due("fall(0, " + aim + ", -1, 0)", new DartMind().fall(0, aim, -1, 0), count);
                E.holds("the last one of " + aim, new DartMind().fall(0, aim, count - 1, 1) > 0);
                E.refused("fall(0, " + aim + ", " + count + ", 0)", -1, y -> y.fall(0, aim, count, 0), Scene.FRESH);
                E.refused("fall(0, " + aim + ", " + count + ", 1)", -1, y -> y.fall(0, aim, count, 1), Scene.FRESH);
            }
            E.refused("fall(0, 1, max, 0)", -1, y -> y.fall(0, 1, MAX, 0));
        });
        E.test(5, "i -1 asks how many FALLS, -2 is NONE", () -> {
            E.due("fall(0, 1, -1, 0)", new DartMind().fall(0, 1, -1, 0), 5);
            E.refused("fall(0, 1, -2, 0)", -1, y -> y.fall(0, 1, -2, 0));
            E.refused("fall(0, 1, min, 0)", -1, y -> y.fall(0, 1, MIN, 0));
        });
        E.test(5, "what is 0 or 1; -1 and 2 are NONE", () -> {
            DartMind x = new DartMind();
            E.due("fall(0, 62, 1, 0)", x.fall(0, 62, 1, 0), 61);
            E.due("fall(0, 62, 1, 1)", x.fall(0, 62, 1, 1), 280);
            E.refused("fall(0, 62, 1, -1)", -1, y -> y.fall(0, 62, 1, -1));
            E.refused("fall(0, 62, 1, 2)", -1, y -> y.fall(0, 62, 1, 2));
        });
        E.test(5, "for i -1 what doesn't matter", () -> {
            for (int what : new int[] {-1, 2, MIN, MAX}) {
                E.due("fall(0, 62, -1, " + what + ")", new DartMind().fall(0, 62, -1, what), 2);
            }
        });
        E.test(5, "what is asked changes nothing", () -> E.asked("fall(1, 5, 4, 1)", y -> y.fall(1, 5, 4, 1)));
    }

    private static void fallWeights() {
        E.test(5, "by SIDE 0 and R 0 the AIM itself has WEIGHT 1000, all others 0", () -> {
            for (int aim = 1; aim <= 62; aim++) {
                DartMind x = byHand(0, 0);
                E.due("fall(0, " + aim + ", 0, 1)", x.fall(0, aim, 0, 1), 1000);
                for (int i = 1; i < x.fall(0, aim, -1, 0); i++) {
                    E.due("fall(0, " + aim + ", " + i + ", 1)", x.fall(0, aim, i, 1), 0);
                }
            }
        });
        E.test(5, "by SIDE 200 and R 200 the AIM itself has WEIGHT 200", () -> {
            for (int aim = 1; aim <= 62; aim++) {
                E.due("fall(0, " + aim + ", 0, 1)", byHand(200, 200).fall(0, aim, 0, 1), 200);
            }
        });
        E.test(5, "the FALLS of a SINGLE, in order, beside the ends of THE RING", () -> {
            falls(20, 20, 972, 5, 5, 1, 5, 60, 9, 40, 9);
            falls(5, 5, 972, 12, 5, 20, 5, 45, 9, 25, 9);
        });
        E.test(5, "the FALLS of a DOUBLE, in order, OUTSIDE the last one", () -> {
            falls(40, 40, 972, 25, 5, 21, 5, 20, 9, 0, 9);
            falls(25, 25, 972, 32, 5, 40, 5, 5, 9, 0, 9);
        });
        E.test(5, "the FALLS of a TREBLE, in order, twice R for the SINGLE", () -> {
            falls(60, 60, 972, 45, 5, 41, 5, 20, 18);
            falls(45, 45, 972, 52, 5, 60, 5, 5, 18);
        });
        E.test(5, "the FALLS of OUTER, in order", () -> falls(61, 61, 972, 62, 9, 6, 5, 11, 5, 20, 9));
        E.test(5, "the FALLS of BULL: twice SIDE and twice R for OUTER", () -> falls(62, 62, 972, 61, 28));
    }

    private static DartMind byHand(int side, int ring) {
        DartMind x = new DartMind();
        x.hand(0, 0, side);
        x.hand(0, 1, ring);
        return x;
    }

    private static void falls(int aim, int... want) {
        DartMind x = byHand(5, 9);
        E.due("fall(0, " + aim + ", -1, 0)", x.fall(0, aim, -1, 0), want.length / 2);
        for (int i = 0; i < want.length; i++) {
            E.due("fall(0, " + aim + ", " + i / 2 + ", " + i % 2 + ")", x.fall(0, aim, i / 2, i % 2), want[i]);
        }
    }

    private static void out() {
        E.test(6, "OUT is 0, 1 or 2; -1 and 3 are NONE", () -> {
            DartMind x = new DartMind();
            E.due("out(0)", x.out(0), 1);
            E.due("out(2)", x.out(2), 0);
            E.due("out(1)", x.out(1), 2);
            for (int out : new int[] {-1, 3, MIN, MAX}) {
                E.refused("out(" + out + ")", -1, y -> y.out(out));
            }
        });
        E.test(6, "it answers what was, also if that is the same", () -> {
            DartMind x = new DartMind();
            E.due("out(1)", x.out(1), 1);
            E.due("out(1)", x.out(1), 1);
        });
        E.test(6, "STATE: a REST is 1, of the one who is to throw, and as the VISIT began", () -> {
            E.refused("out(1)", -3, y -> y.out(1), Scene.ONE);
            E.refused("out(2)", -3, y -> y.out(2), Scene.ONE);
        });
        E.test(6, "STATE: within the VISIT a REST became 1", () -> {
            DartMind x = new DartMind();
            x.out(0);
            x.start(2);
            x.thrown(1);
            E.due("REST as the VISIT began", x.told(5), 2);
            E.due("out(1)", x.out(1), -3);
            E.due("out(2)", x.out(2), -3);
            E.due("told(4)", x.told(4), 0);
        });
        E.test(6, "STATE: the REST of the one who is not to throw is 1", () -> {
            DartMind x = new DartMind();
            x.out(0);
            x.start(2);
            x.thrown(1);
            x.thrown(0);
            x.thrown(0);
            E.due("told(0)", x.told(0), 1);
            E.due("out(1)", x.out(1), -3);
            E.due("out(2)", x.out(2), -3);
            E.due("told(4)", x.told(4), 0);
        });
        E.test(6, "STATE also for PLAYER 1's REST of 1 while PLAYER 0 throws", () -> {
            DartMind x = new DartMind();
            x.out(0);
            x.start(2);
            for (int i = 0; i < 5; i++) {
                x.thrown(0);
            }
            x.thrown(1);
            E.due("told(0)", x.told(0), 0);
            E.due("told(20)", x.told(20), 1);
            E.due("out(1)", x.out(1), -3);
        });
        E.test(6, "STRAIGHT is never refused by a REST of 1", () -> {
            DartMind x = Scene.ONE.make();
            E.due("out(0)", x.out(0), 0);
            E.due("told(10)", x.told(10), 1);
        });
        E.test(6, "a REST of 2 is no reason", () -> {
            DartMind x = new DartMind();
            x.out(0);
            x.start(2);
            E.due("out(1)", x.out(1), 0);
            E.due("out(2)", x.out(2), 1);
        });
        E.test(6, "behind a REST of 1 that is won OUT may become another again", () -> {
            DartMind x = Scene.ONE.make();
            E.due("thrown(1)", x.thrown(1), 0);
            E.due("out(1)", x.out(1), 0);
        });
        E.test(6, "behind START told anew OUT may become another again", () -> {
            DartMind x = Scene.ONE.make();
            x.start(2);
            E.due("out(2)", x.out(2), 0);
        });
        E.test(6, "NONE comes ahead of STATE", () -> E.refused("out(3)", -1, y -> y.out(3), Scene.ONE));
        E.test(6, "OUT takes effect at once, RESTS and THE VISIT stay", () -> {
            DartMind x = new DartMind();
            x.start(60);
            x.thrown(0);
            E.due("ways(60, 1)", x.ways(60, 1), 0);
            x.out(2);
            E.due("ways(60, 1) by MASTER", x.ways(60, 1), 1);
            E.due("told(1)", x.told(1), 2);
            E.due("told(10)", x.told(10), 60);
            E.due("thrown(60) wins", x.thrown(60), 0);
        });
        E.test(6, "the LEAST REST is 1 by STRAIGHT, else 2", () -> {
            DartMind x = new DartMind();
            E.due("DOUBLE: aim(0, 1)", x.aim(0, 1), -1);
            E.due("DOUBLE: aim(0, 2)", x.aim(0, 2), 21);
            x.out(2);
            E.due("MASTER: aim(0, 1)", x.aim(0, 1), -1);
            E.due("MASTER: aim(0, 2)", x.aim(0, 2), 21);
            x.out(0);
            E.due("STRAIGHT: aim(0, 1)", x.aim(0, 1), 1);
            x.out(1);
            E.due("DOUBLE again: aim(0, 1)", x.aim(0, 1), -1);
        });
    }

    private static void fallsNumbers() {
        E.test(7, "a rest is 1 .. 501; 0 and 502 are BAD", () -> {
            DartMind x = new DartMind();
            E.due("falls(501, 1)", x.falls(501, 1), 500);
            E.due("falls(1, 1)", x.falls(1, 1), BUST);
            for (int rest : new int[] {0, 502, -1, MIN, MAX}) {
                E.refused("falls(" + rest + ", 1)", -2, y -> y.falls(rest, 1));
            }
        });
        E.test(7, "a rest of 1 is no BAD one, also if OUT isn't STRAIGHT", () -> {
            DartMind x = new DartMind();
            E.due("falls(1, 2)", x.falls(1, 2), BUST);
            x.out(0);
            E.due("STRAIGHT: falls(1, 1)", x.falls(1, 1), 0);
        });
        E.test(7, "SPOTS are 0 .. 62; -1 and 63 are NONE", () -> {
            DartMind x = new DartMind();
            E.due("falls(60, 0)", x.falls(60, 0), 60);
            E.due("falls(60, 62)", x.falls(60, 62), 10);
            for (int spot : new int[] {-1, 63, MIN, MAX}) {
                E.refused("falls(60, " + spot + ")", -1, y -> y.falls(60, spot));
            }
        });
        E.test(7, "NONE comes ahead of BAD", () -> {
            E.refused("falls(0, 63)", -1, y -> y.falls(0, 63));
            E.refused("falls(502, -1)", -1, y -> y.falls(502, -1));
        });
        E.test(7, "what is asked changes nothing", () -> E.asked("falls(2, 21)", y -> y.falls(2, 21)));
    }

    private static void fallsBust() {
        E.test(7, "a next rest below 0 is BUST, by each OUT", () -> {
            for (int out = 0; out <= 2; out++) {
                DartMind x = new DartMind();
                x.out(out);
                E.due("falls(39, 40)", x.falls(39, 40), BUST);
                E.due("falls(59, 60)", x.falls(59, 60), BUST);
                E.due("falls(49, 62)", x.falls(49, 62), BUST);
                E.due("falls(1, 60)", x.falls(1, 60), BUST);
            }
        });
        E.test(7, "DOUBLE: 0 just by a DOUBLE or one under it", () -> {
            DartMind x = new DartMind();
            E.due("D1", x.falls(2, 21), 0);
            E.due("D20", x.falls(40, 40), 0);
            E.due("BU", x.falls(50, 62), 0);
            E.due("S2", x.falls(2, 2), BUST);
            E.due("S20", x.falls(20, 20), BUST);
            E.due("T1", x.falls(3, 41), BUST);
            E.due("T20", x.falls(60, 60), BUST);
            E.due("OB", x.falls(25, 61), BUST);
        });
        E.test(7, "MASTER: 0 by a TREBLE, too, but by no SINGLE", () -> {
            DartMind x = new DartMind();
            x.out(2);
            E.due("D1", x.falls(2, 21), 0);
            E.due("D20", x.falls(40, 40), 0);
            E.due("BU", x.falls(50, 62), 0);
            E.due("T1", x.falls(3, 41), 0);
            E.due("T20", x.falls(60, 60), 0);
            E.due("S2", x.falls(2, 2), BUST);
            E.due("S20", x.falls(20, 20), BUST);
            E.due("OB", x.falls(25, 61), BUST);
        });
        E.test(7, "STRAIGHT: 0 by each SPOT", () -> {
            DartMind x = new DartMind();
            x.out(0);
            for (int spot = 1; spot <= 62; spot++) {
                E.due("spot " + spot, x.falls(x.spot(spot, 0), spot), 0);
            }
        });
        E.test(7, "a next rest of 1 is BUST, unless OUT is STRAIGHT; one of 2 is none", () -> {
            DartMind x = new DartMind();
            for (int spot = 0; spot <= 62; spot++) {
                int score = x.spot(spot, 0);
                E.due("to 1 by " + spot, x.falls(score + 1, spot), BUST);
                E.due("to 2 by " + spot, x.falls(score + 2, spot), 2);
            }
            x.out(2);
            E.due("MASTER: to 1", x.falls(61, 60), BUST);
            E.due("MASTER: to 2", x.falls(62, 60), 2);
            x.out(0);
            E.due("STRAIGHT: to 1", x.falls(61, 60), 1);
            E.due("STRAIGHT: 1 stays 1 by OUTSIDE", x.falls(1, 0), 1);
        });
    }
}
