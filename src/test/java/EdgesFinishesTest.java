/** The boundary cases of promises 18 to 20 and 32: FINISHES, and THE PAPER that they are spelled upon. */
public final class EdgesFinishesTest {
    private static final int MIN = Integer.MIN_VALUE, MAX = Integer.MAX_VALUE;
    private static final Edges E = new Edges("EdgesFinishesTest");

    public static void main(String[] args) {
        waysNumbers();
        waysCounts();
        wayNumbers();
        wayOrder();
        spellNumbers();
        spellTexts();
        paper();
        E.end(18, 19, 20, 32);
    }

    private static DartMind by(int out) {
        DartMind x = new DartMind();
        x.out(out);
        return x;
    }

    private static void waysNumbers() {
        E.test(18, "rest 180 is answered, 181 NONE", () -> {
            E.due("DOUBLE: 180", by(1).ways(180, 0), 0);
            E.due("MASTER: 180", by(2).ways(180, 0), 1);
            E.due("STRAIGHT: 180", by(0).ways(180, 0), 1);
            E.refused("ways(181, 0)", -1, y -> y.ways(181, 0));
            E.refused("ways(max, 0)", -1, y -> y.ways(MAX, 0));
        });
        E.test(18, "the LEAST REST is answered, what is below is NONE", () -> {
            E.due("DOUBLE: 2", by(1).ways(2, 0), 1);
            E.due("MASTER: 2", by(2).ways(2, 0), 1);
            E.due("STRAIGHT: 1", by(0).ways(1, 0), 1);
            E.due("MASTER: 1", by(2).ways(1, 0), -1);
            E.refused("ways(1, 0)", -1, y -> y.ways(1, 0), Scene.FRESH, Scene.BUSY, Scene.FULL);
            for (int rest : new int[] {0, -1, MIN}) {
                E.refused("ways(" + rest + ", 0)", -1, y -> y.ways(rest, 0));
            }
        });
        E.test(18, "k is 0 .. 3; -1 and 4 are NONE", () -> {
            E.due("ways(4, 0)", by(1).ways(4, 0), 4);
            E.due("ways(4, 3)", by(1).ways(4, 3), 1);
            for (int k : new int[] {-1, 4, MIN, MAX}) {
                E.refused("ways(40, " + k + ")", -1, y -> y.ways(40, k));
            }
        });
        E.test(18, "what is asked changes nothing", () -> E.asked("ways(180, 3)", y -> y.ways(180, 3)));
    }

    private static void waysCounts() {
        E.test(18, "by any is by 1, by 2 and by 3 together", () -> {
            for (int out = 0; out <= 2; out++) {
                DartMind x = by(out);
                for (int rest : new int[] {2, 3, 40, 60, 100, 170, 180}) {
                    int sum = x.ways(rest, 1) + x.ways(rest, 2) + x.ways(rest, 3);
                    E.due("ways(" + rest + ", 0)", x.ways(rest, 0), sum);
                }
            }
        });
        E.test(18, "a FINISH is of SPOTS 1 .. 62: OUTSIDE is in none", () -> {
            E.due("ways(2, 2), no '- D1'", by(1).ways(2, 2), 0);
            E.due("ways(2, 3)", by(1).ways(2, 3), 0);
            E.due("STRAIGHT: ways(1, 2)", by(0).ways(1, 2), 0);
            E.due("STRAIGHT: ways(1, 3)", by(0).ways(1, 3), 0);
        });
        E.test(18, "none of them is BUST at its rest: 1 may not be left but by STRAIGHT", () -> {
            // 3: S1 D1 alone; S2 would leave 1.
            E.due("ways(3, 0)", by(1).ways(3, 0), 1);
            // 3: S3 T1, S1 S2, S1 D1, S2 S1, D1 S1, S1 S1 S1.
            E.due("STRAIGHT: ways(3, 1)", by(0).ways(3, 1), 2);
            E.due("STRAIGHT: ways(3, 2)", by(0).ways(3, 2), 4);
            E.due("STRAIGHT: ways(3, 3)", by(0).ways(3, 3), 1);
            // 3 by MASTER: T1, S1 D1.
            E.due("MASTER: ways(3, 1)", by(2).ways(3, 1), 1);
            E.due("MASTER: ways(3, 2)", by(2).ways(3, 2), 1);
        });
        E.test(18, "none ahead of the last one leaves 0", () -> {
            E.due("ways(50, 1)", by(1).ways(50, 1), 1);
            E.due("ways(40, 1)", by(1).ways(40, 1), 1);
            E.due("STRAIGHT: ways(2, 2), S1 S1 alone", by(0).ways(2, 2), 1);
        });
        E.test(18, "the last one is a DOUBLE or under it, by MASTER a TREBLE too", () -> {
            E.due("ways(60, 1)", by(1).ways(60, 1), 0);
            E.due("MASTER: ways(60, 1)", by(2).ways(60, 1), 1);
            E.due("STRAIGHT: ways(60, 1)", by(0).ways(60, 1), 1);
            E.due("ways(25, 1)", by(1).ways(25, 1), 0);
            E.due("MASTER: ways(25, 1)", by(2).ways(25, 1), 0);
            E.due("STRAIGHT: ways(25, 1), OB", by(0).ways(25, 1), 1);
        });
        E.test(18, "a rest that no three SPOTS finish has none", () -> {
            for (int rest : new int[] {159, 162, 163, 165, 166, 168, 169, 171, 180}) {
                E.due("ways(" + rest + ", 0)", by(1).ways(rest, 0), 0);
            }
            for (int rest : new int[] {158, 160, 161, 164, 167, 170}) {
                E.holds("ways(" + rest + ", 0)", by(1).ways(rest, 0) > 0);
            }
            E.due("MASTER: ways(179, 0)", by(2).ways(179, 0), 0);
            E.holds("MASTER: ways(177, 0)", by(2).ways(177, 0) > 0);
        });
        E.test(18, "another OUT is counted at once", () -> {
            DartMind x = by(1);
            E.due("DOUBLE", x.ways(180, 0), 0);
            x.out(2);
            E.due("MASTER", x.ways(180, 0), 1);
            x.out(1);
            E.due("DOUBLE again", x.ways(180, 0), 0);
        });
    }

    private static void wayNumbers() {
        for (int promise = 19; promise <= 20; promise++) {
            int which = promise;
            E.test(which, "rest 180 is answered, 181 NONE", () -> {
                E.due("MASTER: 180", first(which, by(2), 180, 0), which == 19 ? 3 : 11);
                E.refused("181", -1, y -> first(which, y, 181, 0));
                E.refused("max", -1, y -> first(which, y, MAX, 0));
            });
            E.test(which, "the LEAST REST is answered, what is below is NONE", () -> {
                E.due("DOUBLE: 2", first(which, by(1), 2, 0), which == 19 ? 1 : 2);
                E.due("STRAIGHT: 1", first(which, by(0), 1, 0), which == 19 ? 1 : 2);
                E.due("MASTER: 1", first(which, by(2), 1, 0), -1);
                E.refused("1", -1, y -> first(which, y, 1, 0), Scene.FRESH, Scene.BUSY, Scene.FULL);
                for (int rest : new int[] {0, -1, MIN}) {
                    E.refused("rest " + rest, -1, y -> first(which, y, rest, 0));
                }
            });
            E.test(which, "FINISH 0 is the first, the number of WAYS is NONE, and so is -1", () -> {
                for (int rest : new int[] {2, 4, 60, 170}) {
                    int all = new DartMind().ways(rest, 0);
                    E.holds("first of " + rest, first(which, new DartMind(), rest, 0) > 0);
                    E.holds("last of " + rest, first(which, new DartMind(), rest, all - 1) > 0);
                    E.refused("behind the last of " + rest, -1, y -> first(which, y, rest, all),
                            Scene.FRESH, Scene.FULL);
                }
                for (int i : new int[] {-1, MIN, MAX}) {
                    E.refused("60, " + i, -1, y -> first(which, y, 60, i));
                }
            });
            E.test(which, "a rest without any FINISH: NONE for each number", () -> {
                E.refused("169, 0", -1, y -> first(which, y, 169, 0), Scene.FRESH, Scene.FULL);
                E.refused("180, 0", -1, y -> first(which, y, 180, 0), Scene.FRESH, Scene.FULL);
            });
        }
        E.test(19, "j is -1 up to one less than the SPOTS; -2 and their number are NONE", () -> {
            DartMind x = new DartMind();
            int[] sizes = {1, 2, 2, 3};
            for (int i = 0; i < sizes.length; i++) {
                int which = i;
                int size = sizes[i];
                E.due("way(4, " + i + ", -1)", x.way(4, i, -1), size);
                E.holds("way(4, " + i + ", the last)", x.way(4, i, size - 1) >= 21);
                E.refused("way(4, " + i + ", " + size + ")", -1, y -> y.way(4, which, size), Scene.FRESH);
                E.refused("way(4, " + i + ", -2)", -1, y -> y.way(4, which, -2), Scene.FRESH);
            }
            E.refused("way(60, 0, max)", -1, y -> y.way(60, 0, MAX));
            E.refused("way(60, 0, min)", -1, y -> y.way(60, 0, MIN));
        });
        E.test(19, "what is asked changes nothing, THE PAPER neither", () -> {
            E.asked("way(60, 5, 1)", y -> y.way(60, 5, 1));
            E.asked("way(60, 5, -1)", y -> y.way(60, 5, -1));
        });
    }

    private static int first(int promise, DartMind x, int rest, int i) {
        return promise == 19 ? x.way(rest, i, -1) : x.spell(rest, i);
    }

    private static void wayOrder() {
        E.test(19, "the fewest SPOTS first, at the first and the last of each size", () -> {
            for (int out = 0; out <= 2; out++) {
                DartMind x = by(out);
                for (int rest : new int[] {4, 32, 40, 57}) {
                    int i = 0;
                    for (int k = 1; k <= 3; k++) {
                        int count = x.ways(rest, k);
                        if (count > 0) {
                            E.due(rest + ": the first of " + k, x.way(rest, i, -1), k);
                            E.due(rest + ": the last of " + k, x.way(rest, i + count - 1, -1), k);
                        }
                        i += count;
                    }
                }
            }
        });
        E.test(19, "like ones by their first SPOTS, then second ones, then third ones", () -> {
            DartMind x = by(0);
            // 3 by STRAIGHT: S3, T1; S1 S2, S1 D1, S2 S1, D1 S1; S1 S1 S1.
            int[][] want = {{3}, {41}, {1, 2}, {1, 21}, {2, 1}, {21, 1}, {1, 1, 1}};
            for (int i = 0; i < want.length; i++) {
                for (int j = 0; j < want[i].length; j++) {
                    E.due("way(3, " + i + ", " + j + ")", x.way(3, i, j), want[i][j]);
                }
            }
        });
        E.test(19, "each one of 3 stands behind the one ahead of it, third SPOTS too", () -> {
            DartMind x = by(0);
            int begin = x.ways(9, 1) + x.ways(9, 2);
            long was = -1;
            for (int i = begin; i < x.ways(9, 0) && i < begin + 100; i++) {
                long now = (x.way(9, i, 0) * 63L + x.way(9, i, 1)) * 63L + x.way(9, i, 2);
                E.holds("way(9, " + i + ", ..)", now > was);
                was = now;
            }
        });
        E.test(19, "FINISHES are by OUT as it is now", () -> {
            DartMind x = by(1);
            E.due("DOUBLE: way(6, 0, 0)", x.way(6, 0, 0), 23);
            E.due("DOUBLE: way(6, 1, -1)", x.way(6, 1, -1), 2);
            x.out(2);
            E.due("MASTER: way(6, 1, 0)", x.way(6, 1, 0), 42);
            x.out(0);
            E.due("STRAIGHT: way(6, 0, 0)", x.way(6, 0, 0), 6);
        });
    }

    private static void spellNumbers() {
        E.test(20, "what is refused leaves THE PAPER as it was", () -> {
            DartMind x = new DartMind();
            x.spell(170, 0);
            x.spell(170, 1);
            x.spell(170, -1);
            x.spell(169, 0);
            x.spell(1, 0);
            x.spell(181, 0);
            E.same("THE PAPER", Scene.paper(x), "T20 T20 BU");
        });
        E.test(20, "it changes nothing but THE PAPER", () -> {
            DartMind x = Scene.BUSY.make();
            x.spell(8, 0);
            x.spell(60, 5);
            E.same("all else", Scene.read(x), Scene.read(Scene.BUSY.make()));
        });
    }

    private static void spellTexts() {
        E.test(20, "numbers as short as can be: one figure up to 9, two from 10 on", () -> {
            spelled(1, 18, 0, "D9");
            spelled(1, 20, 0, "D10");
            spelled(1, 2, 0, "D1");
            spelled(1, 40, 0, "D20");
            spelled(0, 1, 0, "S1");
            spelled(0, 19, 0, "S19");
            spelled(0, 3, 1, "T1");
            spelled(2, 60, 0, "T20");
            spelled(2, 27, 0, "T9");
        });
        E.test(20, "OUTER is OB, BULL is BU", () -> {
            spelled(0, 25, 0, "OB");
            spelled(1, 50, 0, "BU");
        });
        E.test(20, "SPOTS are parted by one blank each, none ahead of the first or behind the last", () -> {
            spelled(1, 3, 0, "S1 D1");
            spelled(1, 4, 3, "S1 S1 D1");
        });
        E.test(20, "the longest has 11 bytes, the shortest 2", () -> {
            spelled(2, 180, 0, "T20 T20 T20");
            spelled(1, 4, 0, "D2");
        });
        E.test(20, "a FINISH spelled is a PATH that finishes", () -> {
            DartMind x = new DartMind();
            for (int i = 0; i < 12; i++) {
                x.spell(100, i * 7);
                int size = x.way(100, i * 7, -1);
                Scene.feed(x, Scene.paper(x));
                E.due("judge of FINISH " + i * 7, x.judge(100), size - 1);
            }
        });
    }

    private static void spelled(int out, int rest, int i, String want) {
        DartMind x = by(out);
        E.due("spell(" + rest + ", " + i + ")", x.spell(rest, i), want.length());
        E.same("THE PAPER", Scene.paper(x), want);
        E.due("told(8)", x.told(8), want.length());
    }

    private static void paper() {
        E.test(32, "nothing at first: NONE at 0", () -> {
            for (int i : new int[] {0, -1, 1, MIN, MAX}) {
                E.refused("paper(" + i + ")", -1, y -> y.paper(i), Scene.FRESH, Scene.FULL, Scene.ONE);
            }
        });
        E.test(32, "byte 0 is the first, the length is NONE, and so is -1", () -> {
            DartMind x = new DartMind();
            x.spell(170, 0);
            E.due("paper(0)", x.paper(0), 'T');
            E.due("paper(3)", x.paper(3), ' ');
            E.due("paper(9)", x.paper(9), 'U');
            for (int i : new int[] {10, -1, MIN, MAX}) {
                E.due("paper(" + i + ")", x.paper(i), -1);
            }
        });
        E.test(32, "the longest text's last byte", () -> {
            DartMind x = by(2);
            x.spell(180, 0);
            E.due("paper(10)", x.paper(10), '0');
            E.due("paper(11)", x.paper(11), -1);
        });
        E.test(32, "a shorter text leaves nothing of the longer one ahead of it", () -> {
            DartMind x = new DartMind();
            x.spell(170, 0);
            x.spell(50, 0);
            E.due("paper(1)", x.paper(1), 'U');
            E.due("paper(2)", x.paper(2), -1);
            E.due("told(8)", x.told(8), 2);
        });
        E.test(32, "what is asked changes nothing", () -> E.asked("paper(0)", y -> y.paper(0)));
    }
}
