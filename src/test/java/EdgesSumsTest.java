/** The boundary cases of promises 8 to 17: DARTS, CHANCE, THE RACE. */
public final class EdgesSumsTest {
    private static final long NO = -9000000000000000000L;
    private static final int MIN = Integer.MIN_VALUE, MAX = Integer.MAX_VALUE;
    private static final Edges E = new Edges("EdgesSumsTest");

    public static void main(String[] args) {
        dartsNumbers();
        dartsSums();
        aim();
        chanceNumbers();
        chanceSums();
        raceNumbers();
        raceSums();
        settled();
        percent();
        E.end(8, 9, 10, 11, 12, 13, 14, 15, 16, 17);
    }

    private static long bits(double x) {
        return Double.doubleToRawLongBits(x);
    }

    private static int bits(float x) {
        return Float.floatToRawIntBits(x);
    }

    private static void hand(DartMind x, int player, int side, int ring) {
        x.hand(player, 0, side);
        x.hand(player, 1, ring);
    }

    /** Both PLAYERS hit whatever they aim at. */
    private static DartMind sure(int out) {
        DartMind x = new DartMind();
        hand(x, 0, 0, 0);
        hand(x, 1, 0, 0);
        x.out(out);
        return x;
    }

    // ---- DARTS ----

    private static void dartsNumbers() {
        int[] promises = {8, 9, 10};
        for (int promise : promises) {
            long none = promise == 8 ? NO : -1;
            E.test(promise, "PLAYERS -1 and 2 are refused, 0 and 1 answered", () -> {
                E.holds("0", dartsBy(promise, new DartMind(), 0, 2) > 0);
                E.holds("1", dartsBy(promise, new DartMind(), 1, 2) > 0);
                E.refused("player -1", none, y -> dartsBy(promise, y, -1, 2));
                E.refused("player 2", none, y -> dartsBy(promise, y, 2, 2));
                E.refused("player 2 at rest 0", none, y -> dartsBy(promise, y, 2, 0));
            });
            E.test(promise, "rest 501 is answered, 502 refused", () -> {
                E.holds("501", dartsBy(promise, new DartMind(), 0, 501) > 0);
                E.refused("502", none, y -> dartsBy(promise, y, 0, 502));
                E.refused("max", none, y -> dartsBy(promise, y, 0, MAX));
            });
            E.test(promise, "rest 0 is answered by 0, -1 refused", () -> {
                for (int out = 0; out <= 2; out++) {
                    E.due("rest 0 by OUT " + out, dartsBy(promise, sure(out), 0, 0), 0);
                    E.due("rest 0 of PLAYER 1", dartsBy(promise, sure(out), 1, 0), 0);
                }
                E.refused("-1", none, y -> dartsBy(promise, y, 0, -1));
                E.refused("min", none, y -> dartsBy(promise, y, 0, MIN));
            });
            E.test(promise, "rest 1 is refused unless OUT is STRAIGHT", () -> {
                E.refused("1", none, y -> dartsBy(promise, y, 0, 1), Scene.FRESH, Scene.BUSY, Scene.FULL);
                E.due("1 by STRAIGHT", dartsBy(promise, sure(0), 0, 1), dartsBy(promise, sure(1), 0, 2));
                E.due("1 by MASTER", dartsBy(promise, sure(2), 0, 1), none);
            });
            E.test(promise, "what is asked changes nothing", () -> {
                E.asked("rest 501", y -> dartsBy(promise, y, 0, 501));
                E.asked("rest 0", y -> dartsBy(promise, y, 1, 0));
            });
        }
    }

    private static long dartsBy(int promise, DartMind x, int player, int rest) {
        switch (promise) {
            case 8: return x.darts(player, rest);
            case 9: return x.dartsCut(player, rest);
            default: return x.thousandths(player, rest);
        }
    }

    private static void dartsSums() {
        E.test(8, "at 0 it is 0.0, one sure dart is 1.0, a STAYING one is thrown again", () -> {
            DartMind x = new DartMind();
            E.due("darts(0, 0)", x.darts(0, 0), bits(0.0));
            E.due("darts(0, 2)", x.darts(0, 2), bits(1.0 / (720 / 1000.0)));
            E.due("sure", sure(1).darts(0, 2), bits(1.0));
        });
        E.test(8, "there is no value, if all are STAYING: DARTS is as by the other AIMS", () -> {
            // Of 62 AIMS all but a few are BUST by each FALL at so small a rest.
            DartMind x = sure(1);
            E.due("darts(0, 2)", x.darts(0, 2), bits(1.0));
            E.due("darts(0, 3)", x.darts(0, 3), bits(2.0));
            hand(x, 0, 200, 0);
            E.due("darts(0, 2)", x.darts(0, 2), bits(1.0 / (600 / 1000.0)));
        });
        E.test(8, "a FALL that is OUTSIDE is STAYING as one that is BUST", () -> {
            DartMind x = new DartMind();
            hand(x, 0, 0, 200);
            // D2 at 4: S2 (200) leaves 2, OUTSIDE (200) stays.
            double two = 1.0 / (600 / 1000.0);
            double four = (1.0 + 600 / 1000.0 * 0.0 + 0 / 1000.0 * 0.0 + 200 / 1000.0 * two) / (800 / 1000.0);
            E.due("darts(0, 2)", x.darts(0, 2), bits(two));
            E.due("darts(0, 4)", x.darts(0, 4), bits(four));
        });
        E.test(8, "up to 501, by each OUT: so many darts of one who never misses", () -> {
            E.due("STRAIGHT: 501", sure(0).darts(0, 501), bits(9.0));
            E.due("DOUBLE: 501", sure(1).darts(1, 501), bits(9.0));
            E.due("MASTER: 501", sure(2).darts(0, 501), bits(9.0));
            E.due("STRAIGHT: 180", sure(0).darts(0, 180), bits(3.0));
            E.due("DOUBLE: 170", sure(1).darts(0, 170), bits(3.0));
            E.due("DOUBLE: 171", sure(1).darts(0, 171), bits(4.0));
            E.due("MASTER: 180", sure(2).darts(0, 180), bits(3.0));
            E.due("MASTER: 181", sure(2).darts(0, 181), bits(4.0));
        });
        E.test(8, "a smaller rest behind a greater one is answered as ahead of it", () -> {
            DartMind x = new DartMind();
            long early = x.darts(0, 60);
            x.darts(0, 501);
            E.due("darts(0, 60)", x.darts(0, 60), early);
        });
        E.test(9, "DARTS as a float: the nearest one, not cut", () -> {
            int up = 0;
            DartMind x = new DartMind();
            for (int rest = 2; rest <= 101; rest++) {
                double exact = Double.longBitsToDouble(x.darts(0, rest));
                E.due("dartsCut(0, " + rest + ")", x.dartsCut(0, rest), bits((float) exact));
                up += (double) (float) exact > exact ? 1 : 0;
            }
            E.holds("some are rounded up", up > 0);
        });
        E.test(10, "times 1000.0 and cut, not rounded", () -> {
            DartMind x = new DartMind();
            E.due("thousandths(0, 2) of 1388.8..", x.thousandths(0, 2), 1388);
            E.due("thousandths(0, 3) of 2777.7..", x.thousandths(0, 3), 2777);
            E.due("sure, 1000 exactly", sure(1).thousandths(0, 2), 1000);
        });
    }

    private static void aim() {
        E.test(11, "PLAYERS -1 and 2 are NONE", () -> {
            E.refused("aim(-1, 2)", -1, y -> y.aim(-1, 2));
            E.refused("aim(2, 2)", -1, y -> y.aim(2, 2));
        });
        E.test(11, "rest 501 is answered, 502 NONE", () -> {
            E.due("aim(0, 501)", sure(1).aim(0, 501), 37);
            E.refused("aim(0, 502)", -1, y -> y.aim(0, 502));
            E.refused("aim(0, max)", -1, y -> y.aim(0, MAX));
        });
        E.test(11, "rest 0 is NONE here, by each OUT, and so is -1", () -> {
            E.refused("aim(0, 0)", -1, y -> y.aim(0, 0));
            E.refused("aim(0, -1)", -1, y -> y.aim(0, -1));
            E.refused("aim(0, min)", -1, y -> y.aim(0, MIN));
        });
        E.test(11, "the LEAST REST is answered, what is below is NONE", () -> {
            E.due("DOUBLE: 2", sure(1).aim(0, 2), 21);
            E.due("MASTER: 2", sure(2).aim(1, 2), 21);
            E.due("STRAIGHT: 1", sure(0).aim(1, 1), 1);
            E.refused("aim(0, 1)", -1, y -> y.aim(0, 1), Scene.FRESH, Scene.BUSY, Scene.FULL);
        });
        E.test(11, "of AIMS with the same value the least number", () -> {
            // 60 by DOUBLE takes two darts: S10 BU, S20 D20, D5 BU and so on.
            E.due("aim(0, 60)", sure(1).aim(0, 60), 10);
            E.due("STRAIGHT: S2 is ahead of D1", sure(0).aim(0, 2), 2);
            E.due("STRAIGHT: S20 is ahead of D10", sure(0).aim(0, 20), 20);
            E.due("MASTER: D3 is ahead of T2", sure(2).aim(0, 6), 23);
        });
        E.test(11, "what is asked changes nothing", () -> E.asked("aim(1, 501)", y -> y.aim(1, 501)));
    }

    // ---- CHANCE ----

    private static void chanceNumbers() {
        for (int promise = 12; promise <= 13; promise++) {
            int which = promise;
            long none = which == 12 ? NO : -1;
            E.test(which, "PLAYERS -1 and 2 are refused", () -> {
                E.refused("player -1", none, y -> chanceBy(which, y, -1, 40, 1));
                E.refused("player 2", none, y -> chanceBy(which, y, 2, 40, 1));
            });
            E.test(which, "rest 180 is answered, 181 refused", () -> {
                E.holds("180", chanceBy(which, new DartMind(), 0, 180, 3) >= 0);
                E.refused("181", none, y -> chanceBy(which, y, 0, 181, 3));
                E.refused("max", none, y -> chanceBy(which, y, 0, MAX, 3));
            });
            E.test(which, "the LEAST REST is answered, what is below is refused, 0 too", () -> {
                E.holds("2", chanceBy(which, sure(1), 0, 2, 1) > 0);
                E.holds("MASTER: 2", chanceBy(which, sure(2), 0, 2, 1) > 0);
                E.holds("STRAIGHT: 1", chanceBy(which, sure(0), 1, 1, 1) > 0);
                E.due("MASTER: 1", chanceBy(which, sure(2), 0, 1, 1), none);
                E.refused("1", none, y -> chanceBy(which, y, 0, 1, 1), Scene.FRESH, Scene.BUSY, Scene.FULL);
                E.refused("0", none, y -> chanceBy(which, y, 0, 0, 1));
                E.refused("-1", none, y -> chanceBy(which, y, 0, -1, 1));
                E.refused("min", none, y -> chanceBy(which, y, 0, MIN, 1));
            });
            E.test(which, "k up to 3; 4 and -1 are refused", () -> {
                E.holds("3", chanceBy(which, new DartMind(), 0, 40, 3) > 0);
                E.refused("4", none, y -> chanceBy(which, y, 0, 40, 4));
                E.refused("-1", none, y -> chanceBy(which, y, 0, 40, -1));
                E.refused("max", none, y -> chanceBy(which, y, 0, 40, MAX));
                E.refused("min", none, y -> chanceBy(which, y, 0, 40, MIN));
            });
            E.test(which, "what is asked changes nothing",
                    () -> E.asked("180", y -> chanceBy(which, y, 1, 180, 3)));
        }
        E.test(12, "k 0 is answered by 0.0", () -> {
            E.due("chance(0, 2, 0)", sure(1).chance(0, 2, 0), bits(0.0));
            E.due("chance(1, 180, 0)", sure(0).chance(1, 180, 0), bits(0.0));
        });
        E.test(13, "k 0 is NONE here", () -> {
            E.refused("chanceAim(0, 40, 0)", -1, y -> y.chanceAim(0, 40, 0));
            E.due("k 1", sure(1).chanceAim(0, 40, 1), 40);
        });
    }

    private static long chanceBy(int promise, DartMind x, int player, int rest, int k) {
        return promise == 12 ? x.chance(player, rest, k) : x.chanceAim(player, rest, k);
    }

    private static void chanceSums() {
        E.test(12, "within just so many darts as are told", () -> {
            DartMind x = sure(1);
            E.due("40 by 1", x.chance(0, 40, 1), bits(1.0));
            E.due("41 by 1", x.chance(0, 41, 1), bits(0.0));
            E.due("110 by 2", x.chance(0, 110, 2), bits(1.0));
            E.due("111 by 2", x.chance(0, 111, 2), bits(0.0));
            E.due("170 by 3", x.chance(0, 170, 3), bits(1.0));
            E.due("171 by 3", x.chance(0, 171, 3), bits(0.0));
            E.due("MASTER: 180 by 3", sure(2).chance(0, 180, 3), bits(1.0));
            E.due("STRAIGHT: 180 by 3", sure(0).chance(0, 180, 3), bits(1.0));
        });
        E.test(12, "a FALL that is BUST adds nothing, OUTSIDE leaves the rest for the next dart", () -> {
            DartMind x = new DartMind();
            hand(x, 0, 0, 200);
            double odd = 600 / 1000.0;
            E.due("2 by 1", x.chance(0, 2, 1), bits(odd));
            E.due("2 by 2: S1 is BUST, OUTSIDE isn't", x.chance(0, 2, 2), bits(odd + 200 / 1000.0 * odd));
        });
        E.test(13, "of AIMS with the same CHANCE the least number", () -> {
            E.due("none can: 1", sure(1).chanceAim(0, 180, 3), 1);
            E.due("170 within 2: 1", sure(1).chanceAim(0, 170, 2), 1);
            E.due("60 within 2: S10 BU", sure(1).chanceAim(0, 60, 2), 10);
            E.due("STRAIGHT: 2 within 1", sure(0).chanceAim(0, 2, 1), 2);
        });
        E.test(13, "the last AIM, BULL, may be the one", () -> {
            E.due("50 within 1", sure(1).chanceAim(0, 50, 1), 62);
            E.due("170 within 3", sure(1).chanceAim(0, 170, 3), 60);
        });
    }

    // ---- THE RACE ----

    private static long raceBy(int promise, DartMind x, int r, int q) {
        switch (promise) {
            case 14: return x.race(r, q, 0);
            case 15: return x.raceAim(r, q, 0);
            case 16: return x.settled(r, q);
            default: return x.percent(r, q);
        }
    }

    private static void raceNumbers() {
        for (int promise = 14; promise <= 17; promise++) {
            int which = promise;
            long none = which == 14 ? NO : -1;
            E.test(which, "rests up to 24; 25 is refused, on both sides", () -> {
                E.holds("24, 24", raceBy(which, new DartMind(), 24, 24) >= 0);
                E.refused("25, 24", none, y -> raceBy(which, y, 25, 24));
                E.refused("24, 25", none, y -> raceBy(which, y, 24, 25));
                E.refused("max, 2", none, y -> raceBy(which, y, MAX, 2));
                E.refused("2, max", none, y -> raceBy(which, y, 2, MAX));
            });
            E.test(which, "rests from the LEAST REST on; what is below is refused, on both sides", () -> {
                E.holds("2, 2", raceBy(which, sure(1), 2, 2) >= 0);
                E.holds("STRAIGHT: 1, 1", raceBy(which, sure(0), 1, 1) >= 0);
                E.due("MASTER: 1, 2", raceBy(which, sure(2), 1, 2), none);
                E.refused("1, 2", none, y -> raceBy(which, y, 1, 2), Scene.FRESH, Scene.BUSY, Scene.FULL);
                E.refused("2, 1", none, y -> raceBy(which, y, 2, 1), Scene.FRESH, Scene.BUSY, Scene.FULL);
                E.refused("0, 2", none, y -> raceBy(which, y, 0, 2));
                E.refused("2, 0", none, y -> raceBy(which, y, 2, 0));
                E.refused("-1, 2", none, y -> raceBy(which, y, -1, 2));
                E.refused("2, min", none, y -> raceBy(which, y, 2, MIN));
            });
            E.test(which, "what is asked changes nothing", () -> E.asked("9, 10", y -> raceBy(which, y, 9, 10)));
        }
        E.test(14, "who is 0 or 1; -1 and 2 are NO", () -> {
            E.holds("0", new DartMind().race(2, 2, 0) > 0);
            E.holds("1", new DartMind().race(2, 2, 1) > 0);
            E.refused("race(2, 2, -1)", NO, y -> y.race(2, 2, -1));
            E.refused("race(2, 2, 2)", NO, y -> y.race(2, 2, 2));
        });
        E.test(15, "who is 0 or 1; -1 and 2 are NONE", () -> {
            E.due("0", new DartMind().raceAim(2, 2, 0), 21);
            E.due("1", new DartMind().raceAim(2, 2, 1), 21);
            E.refused("raceAim(2, 2, -1)", -1, y -> y.raceAim(2, 2, -1));
            E.refused("raceAim(2, 2, 2)", -1, y -> y.raceAim(2, 2, 2));
        });
    }

    /** X and Y at 2, 2 by hand, where but D1 is worth a throw: behind so many SWEEPS. */
    private static double[] sweeps(int staying0, int staying1, int count) {
        double x = 0.5;
        double y = 0.5;
        for (int i = 0; i < count; i++) {
            x = (1000 - staying0) / 1000.0 + staying0 / 1000.0 * (1.0 - y);
            y = (1000 - staying1) / 1000.0 + staying1 / 1000.0 * (1.0 - x);
        }
        return new double[] {x, y};
    }

    private static void raceSums() {
        E.test(14, "just 12 SWEEPS, X ahead of Y in each, from 0.5 on", () -> {
            DartMind x = new DartMind();
            hand(x, 0, 200, 100);
            hand(x, 1, 150, 100);
            double[] want = sweeps(600, 500, 12);
            E.due("race(2, 2, 0)", x.race(2, 2, 0), bits(want[0]));
            E.due("race(2, 2, 1)", x.race(2, 2, 1), bits(want[1]));
            E.holds("11 make another X", bits(sweeps(600, 500, 11)[0]) != bits(want[0]));
            E.holds("13 make another Y", bits(sweeps(600, 500, 13)[1]) != bits(want[1]));
        });
        E.test(14, "pairs of rests asked in any order are answered as on an object of their own", () -> {
            DartMind x = new DartMind();
            for (int i = 0; i < 120; i++) {
                int r = 2 + i * 7 % 11;
                int q = 2 + i * 17 % 23;
                DartMind y = new DartMind();
                E.due("race(" + r + ", " + q + ", 0)", x.race(r, q, 0), y.race(r, q, 0));
                E.due("race(" + r + ", " + q + ", 1)", x.race(r, q, 1), y.race(r, q, 1));
            }
            for (int r = 24; r >= 2; r -= 2) {
                E.due("race(" + r + ", 24, 1)", new DartMind().race(r, 24, 1), x.race(r, 24, 1));
                E.due("race(24, " + r + ", 0)", new DartMind().race(24, r, 0), x.race(24, r, 0));
            }
        });
        E.test(14, "one who wins at once: X is 1.0, and Y, whoever is to throw", () -> {
            E.due("race(2, 2, 0)", sure(1).race(2, 2, 0), bits(1.0));
            E.due("race(2, 2, 1)", sure(1).race(2, 2, 1), bits(1.0));
            E.due("race(24, 24, 0)", sure(1).race(24, 24, 0), bits(1.0));
            E.due("race(3, 2, 0): the rival is first", sure(1).race(3, 2, 0), bits(0.0));
            E.due("race(2, 3, 1)", sure(1).race(2, 3, 1), bits(0.0));
        });
        E.test(14, "at 3 each needs two darts, and who throws first is first", () -> {
            E.due("race(3, 3, 0)", sure(1).race(3, 3, 0), bits(1.0));
            E.due("race(3, 3, 1)", sure(1).race(3, 3, 1), bits(1.0));
        });
        E.test(15, "of AIMS with the same value the least number", () -> {
            E.due("raceAim(3, 2, 0): lost by each AIM", sure(1).raceAim(3, 2, 0), 1);
            E.due("raceAim(2, 3, 1): lost by each AIM", sure(1).raceAim(2, 3, 1), 1);
            E.due("STRAIGHT: raceAim(2, 2, 0), S2 ahead of D1", sure(0).raceAim(2, 2, 0), 2);
        });
        E.test(15, "by the rival's value as it is in the END, not as the last SWEEP found it", () -> {
            DartMind x = new DartMind();
            hand(x, 0, 0, 80);
            hand(x, 1, 40, 160);
            x.out(0);
            for (int q = 1; q <= 24; q++) {
                double y1 = Double.longBitsToDouble(x.race(1, q, 1));
                double y2 = Double.longBitsToDouble(x.race(2, q, 1));
                double single = 840 / 1000.0 + 160 / 1000.0 * (1.0 - y2);
                double twice = 840 / 1000.0 + 80 / 1000.0 * (1.0 - y1) + 80 / 1000.0 * (1.0 - y2);
                E.due("raceAim(2, " + q + ", 0)", x.raceAim(2, q, 0), twice > single ? 21 : 2);
            }
            E.due("raceAim(2, 13, 0), not settled", x.raceAim(2, 13, 0), 21);
            E.due("settled(2, 13)", x.settled(2, 13), 0);
        });
        E.test(15, "each PLAYER's AIM is by the own rest", () -> {
            E.due("raceAim(24, 2, 0)", sure(1).raceAim(24, 2, 0), 32);
            E.due("raceAim(2, 24, 1)", sure(1).raceAim(2, 24, 1), 32);
            E.due("raceAim(4, 24, 0)", sure(1).raceAim(4, 24, 0), 22);
        });
    }

    /** The first SWEEP at 2, 2 that leaves both as they were. */
    private static int firstStill(int staying) {
        for (int i = 1; i < 100; i++) {
            double[] was = sweeps(staying, staying, i - 1);
            double[] is = sweeps(staying, staying, i);
            if (was[0] == is[0] && was[1] == is[1]) {
                return i;
            }
        }
        return 100;
    }

    private static DartMind staying(int staying) {
        DartMind x = new DartMind();
        for (int player = 0; player < 2; player++) {
            hand(x, player, staying / 2, 0);
        }
        return x;
    }

    private static void settled() {
        E.test(16, "the 12th SWEEP is the first one that leaves both as they were: 1", () -> {
            int found = 0;
            for (int staying = 2; staying <= 400; staying += 2) {
                if (firstStill(staying) == 12) {
                    found++;
                    E.due("settled(2, 2) by SIDE " + staying / 2, staying(staying).settled(2, 2), 1);
                }
            }
            E.holds("there are such hands", found > 0);
        });
        E.test(16, "the 13th SWEEP would be the first one: 0", () -> {
            int found = 0;
            for (int staying = 2; staying <= 400; staying += 2) {
                if (firstStill(staying) == 13) {
                    found++;
                    E.due("settled(2, 2) by SIDE " + staying / 2, staying(staying).settled(2, 2), 0);
                }
            }
            E.holds("there are such hands", found > 0);
        });
        E.test(16, "no miss at all settles at once", () -> {
            E.due("settled(2, 2)", sure(1).settled(2, 2), 1);
            E.due("settled(24, 24)", sure(1).settled(24, 24), 1);
        });
    }

    private static void percent() {
        E.test(17, "times 100.0 as doubles, as a float, then cut: 57.99999999999999 is 58", () -> {
            DartMind x = new DartMind();
            hand(x, 0, 100, 110);
            hand(x, 1, 0, 0);
            double won = 580 / 1000.0;
            E.holds("the double is below 58", won * 100.0 < 58.0);
            E.due("race(2, 2, 0)", x.race(2, 2, 0), bits(won));
            E.due("percent(2, 2)", x.percent(2, 2), 58);
        });
        E.test(17, "cut, not rounded", () -> {
            DartMind x = new DartMind();
            hand(x, 0, 3, 0);
            hand(x, 1, 0, 0);
            E.due("percent(2, 2) of 99.4", x.percent(2, 2), 99);
            hand(x, 0, 2, 2);
            E.due("percent(2, 2) of 99.2", x.percent(2, 2), 99);
            hand(x, 0, 1, 0);
            E.due("percent(2, 2) of 99.8", x.percent(2, 2), 99);
        });
        E.test(17, "0 and 100 are the ends", () -> {
            E.due("percent(3, 2)", sure(1).percent(3, 2), 0);
            E.due("percent(2, 2)", sure(1).percent(2, 2), 100);
        });
    }
}
