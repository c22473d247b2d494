/** The boundary cases of promises 33 to 37: RACKS. */
public final class EdgesRacksTest {
    private static final int EMPTY = -5;
    private static final int MIN = Integer.MIN_VALUE, MAX = Integer.MAX_VALUE;
    private static final Edges E = new Edges("EdgesRacksTest");

    public static void main(String[] args) {
        rackNumbers();
        rackMade();
        laysNumbers();
        laysKinds();
        laysPlaces();
        laid();
        likeNumbers();
        likeRows();
        judgedNumbers();
        judgedRows();
        E.end(33, 34, 35, 36, 37);
    }

    private static DartMind with(int kind, int size) {
        DartMind x = new DartMind();
        x.rack(0, kind, size);
        return x;
    }

    private static void rackNumbers() {
        E.test(33, "RACKS are 0 .. 3; -1 and 4 are NONE", () -> {
            DartMind x = new DartMind();
            E.due("rack(0, 0, 1)", x.rack(0, 0, 1), 1);
            E.due("rack(3, 0, 1)", x.rack(3, 0, 1), 1);
            E.due("laid(1, 0)", x.laid(1, 0), -11);
            for (int rack : new int[] {-1, 4, MIN, MAX}) {
                E.refused("rack(" + rack + ", 0, 1)", -1, y -> y.rack(rack, 0, 1));
            }
        });
        E.test(33, "KINDS are 0 .. 5; -1 and 6 are NONE", () -> {
            DartMind x = new DartMind();
            E.due("rack(0, 0, 1)", x.rack(0, 0, 1), 1);
            E.due("rack(0, 5, 1)", x.rack(0, 5, 1), 1);
            for (int kind : new int[] {-1, 6, MIN, MAX}) {
                E.refused("rack(0, " + kind + ", 1)", -1, y -> y.rack(0, kind, 1));
            }
        });
        E.test(33, "20 places are made, 21 are BAD", () -> {
            DartMind x = with(0, 20);
            E.due("laid(0, 19)", x.laid(0, 19), EMPTY);
            E.due("laid(0, 20)", x.laid(0, 20), -12);
            E.refused("rack(0, 0, 21)", -2, y -> y.rack(0, 0, 21));
            E.refused("rack(3, 0, max)", -2, y -> y.rack(3, 0, MAX));
        });
        E.test(33, "0 places are made, -1 is -14", () -> {
            DartMind x = new DartMind();
            E.due("rack(0, 0, 0)", x.rack(0, 0, 0), 1);
            E.due("laid(0, 0), no longer missing", x.laid(0, 0), -12);
            E.refused("rack(0, 0, -1)", -14, y -> y.rack(0, 0, -1));
            E.refused("rack(3, 0, min)", -14, y -> y.rack(3, 0, MIN));
        });
        E.test(33, "NONE comes ahead of BAD and of -14", () -> {
            E.refused("rack(4, 0, 21)", -1, y -> y.rack(4, 0, 21));
            E.refused("rack(4, 0, -1)", -1, y -> y.rack(4, 0, -1));
            E.refused("rack(0, 6, 21)", -1, y -> y.rack(0, 6, 21));
            E.refused("rack(0, 6, -1)", -1, y -> y.rack(0, 6, -1));
        });
    }

    private static void rackMade() {
        E.test(33, "made anew all its places are empty", () -> {
            DartMind x = with(0, 3);
            for (int i = 0; i < 3; i++) {
                x.lays(0, i, 7);
            }
            x.rack(0, 0, 3);
            for (int i = 0; i < 3; i++) {
                E.due("laid(0, " + i + ")", x.laid(0, i), EMPTY);
            }
        });
        E.test(33, "made greater behind a smaller one its new places are empty, too", () -> {
            DartMind x = with(0, 20);
            x.lays(0, 19, 7);
            x.rack(0, 0, 1);
            x.rack(0, 0, 20);
            E.due("laid(0, 19)", x.laid(0, 19), EMPTY);
        });
        E.test(33, "made anew it is for the new KIND", () -> {
            DartMind x = with(2, 1);
            x.rack(0, 3, 1);
            E.due("lays(0, 0, 21)", x.lays(0, 0, 21), -16);
            E.due("lays(0, 0, 41)", x.lays(0, 0, 41), 1);
        });
        E.test(33, "no other RACK becomes another", () -> {
            DartMind x = Scene.BUSY.make();
            x.rack(3, 0, 2);
            E.due("laid(0, 1)", x.laid(0, 1), 62);
            E.due("laid(1, 19)", x.laid(1, 19), 61);
            E.due("laid(2, 0)", x.laid(2, 0), -12);
        });
    }

    private static void laysNumbers() {
        E.test(34, "RACKS -1 and 4 are NONE", () -> {
            for (int rack : new int[] {-1, 4, MIN, MAX}) {
                E.refused("lays(" + rack + ", 0, 1)", -1, y -> y.lays(rack, 0, 1));
            }
        });
        E.test(34, "SPOTS are 0 .. 62, and -1 for nothing; -2 and 63 are NONE", () -> {
            DartMind x = with(0, 1);
            for (int spot : new int[] {0, 62, -1}) {
                E.due("lays(0, 0, " + spot + ")", x.lays(0, 0, spot), 1);
                E.due("laid(0, 0)", x.laid(0, 0), spot == -1 ? EMPTY : spot);
            }
            for (int spot : new int[] {-2, 63, MIN, MAX}) {
                E.refused("lays(1, 0, " + spot + ")", -1, y -> y.lays(1, 0, spot));
            }
        });
        E.test(34, "-11 of a missing RACK, for nothing, too", () -> {
            E.refused("lays(3, 0, 1)", -11, y -> y.lays(3, 0, 1));
            E.refused("lays(3, 0, -1)", -11, y -> y.lays(3, 0, -1));
        });
        E.test(34, "NONE comes ahead of -11", () -> E.refused("lays(3, 0, 63)", -1, y -> y.lays(3, 0, 63)));
        E.test(34, "-11 comes ahead of -12", () -> E.refused("lays(3, -1, 1)", -11, y -> y.lays(3, -1, 1)));
        E.test(34, "places are 0 up to one less than the size; -1 and the size are -12", () -> {
            for (int size : new int[] {1, 3, 20}) {
                DartMind x = with(0, size);
                E.due("lays(0, 0, 1)", x.lays(0, 0, 1), 1);
                E.due("lays(0, " + (size - 1) + ", 2)", x.lays(0, size - 1, 2), 1);
                E.due("lays(0, " + size + ", 3)", x.lays(0, size, 3), -12);
                E.due("lays(0, -1, 3)", x.lays(0, -1, 3), -12);
                E.due("laid(0, last)", x.laid(0, size - 1), 2);
            }
            for (int i : new int[] {3, -1, MIN, MAX}) {
                E.refused("lays(0, " + i + ", 21)", -12, y -> y.lays(0, i, 21), Scene.BUSY);
                E.refused("lays(0, " + i + ", -1)", -12, y -> y.lays(0, i, -1), Scene.BUSY);
            }
        });
        E.test(34, "a RACK of 0 places has none", () -> E.refused("lays(2, 0, 61)", -12, y -> y.lays(2, 0, 61), Scene.BUSY));
        E.test(34, "-12 comes ahead of -16", () -> E.refused("lays(0, 3, 20)", -12, y -> y.lays(0, 3, 20), Scene.BUSY));
        E.test(34, "-16: what isn't of the KIND, and what stands there stays", () -> {
            E.refused("lays(0, 1, 20)", -16, y -> y.lays(0, 1, 20), Scene.BUSY);
            E.refused("lays(0, 0, 0)", -16, y -> y.lays(0, 0, 0), Scene.BUSY);
            E.refused("lays(0, 0, 61)", -16, y -> y.lays(0, 0, 61), Scene.BUSY);
        });
    }

    private static void laysKinds() {
        for (int each = 0; each <= 5; each++) {
            int kind = each;
            E.test(34, "a RACK for KIND " + kind + " takes SPOTS of it or under it alone", () -> {
                DartMind x = with(kind, 1);
                for (int spot = 0; spot <= 62; spot++) {
                    E.due("lays(0, 0, " + spot + ")", x.lays(0, 0, spot), fits(spot, kind) ? 1 : -16);
                }
            });
        }
    }

    private static boolean fits(int spot, int kind) {
        switch (kind) {
            case 0: return true;
            case 1: return spot >= 1 && spot <= 20 || spot == 61;
            case 2: return spot >= 21 && spot <= 40 || spot == 62;
            case 3: return spot >= 41 && spot <= 60;
            case 4: return spot == 62;
            default: return spot == 61;
        }
    }

    private static void laysPlaces() {
        E.test(34, "NONE empties a place, also one that is empty", () -> {
            DartMind x = with(2, 2);
            x.lays(0, 0, 21);
            E.due("lays(0, 0, -1)", x.lays(0, 0, -1), 1);
            E.due("laid(0, 0)", x.laid(0, 0), EMPTY);
            E.due("lays(0, 0, -1)", x.lays(0, 0, -1), 1);
            E.due("laid(0, 0)", x.laid(0, 0), EMPTY);
        });
        E.test(34, "another SPOT takes the place of the one there, and no other place", () -> {
            DartMind x = with(0, 3);
            x.lays(0, 1, 5);
            x.lays(0, 1, 6);
            E.due("laid(0, 0)", x.laid(0, 0), EMPTY);
            E.due("laid(0, 1)", x.laid(0, 1), 6);
            E.due("laid(0, 2)", x.laid(0, 2), EMPTY);
        });
    }

    private static void laid() {
        E.test(35, "RACKS -1 and 4 are NONE", () -> {
            for (int rack : new int[] {-1, 4, MIN, MAX}) {
                E.refused("laid(" + rack + ", 0)", -1, y -> y.laid(rack, 0));
            }
        });
        E.test(35, "-11 of a missing RACK, ahead of -12", () -> {
            E.refused("laid(3, 0)", -11, y -> y.laid(3, 0));
            E.refused("laid(3, -1)", -11, y -> y.laid(3, -1));
            E.refused("laid(3, 20)", -11, y -> y.laid(3, 20));
        });
        E.test(35, "places are 0 up to one less than the size; -1 and the size are -12", () -> {
            DartMind x = Scene.BUSY.make();
            E.due("laid(1, 0)", x.laid(1, 0), 0);
            E.due("laid(1, 19)", x.laid(1, 19), 61);
            for (int i : new int[] {20, -1, MIN, MAX}) {
                E.refused("laid(1, " + i + ")", -12, y -> y.laid(1, i), Scene.BUSY);
            }
            E.refused("laid(2, 0), no places", -12, y -> y.laid(2, 0), Scene.BUSY);
        });
        E.test(35, "-5 of an empty place, 0 of one with OUTSIDE", () -> {
            DartMind x = Scene.BUSY.make();
            E.due("laid(0, 0)", x.laid(0, 0), EMPTY);
            E.due("laid(1, 0)", x.laid(1, 0), 0);
        });
        E.test(35, "what is asked changes nothing", () -> E.asked("laid(0, 1)", y -> y.laid(0, 1), Scene.BUSY));
    }

    private static void likeNumbers() {
        E.test(36, "RACKS -1 and 4 are NONE, on both sides", () -> {
            for (int rack : new int[] {-1, 4, MIN, MAX}) {
                E.refused("like(" + rack + ", 0)", -1, y -> y.like(rack, 0));
                E.refused("like(0, " + rack + ")", -1, y -> y.like(0, rack));
            }
        });
        E.test(36, "-11: the other one is missing; the RACK stays as it was", () -> {
            E.refused("like(0, 3)", -11, y -> y.like(0, 3));
            E.refused("like(3, 3)", -11, y -> y.like(3, 3));
        });
        E.test(36, "NONE comes ahead of -11", () -> E.refused("like(4, 3)", -1, y -> y.like(4, 3)));
        E.test(36, "the RACK itself may be missing", () -> {
            DartMind x = Scene.BUSY.make();
            E.due("like(3, 0)", x.like(3, 0), 3);
            E.due("laid(3, 1)", x.laid(3, 1), 62);
        });
        E.test(36, "a size of 0 and of 20", () -> {
            DartMind x = Scene.BUSY.make();
            E.due("like(3, 2)", x.like(3, 2), 0);
            E.due("laid(3, 0)", x.laid(3, 0), -12);
            E.due("like(3, 1)", x.like(3, 1), 20);
            E.due("laid(3, 19)", x.laid(3, 19), 61);
            E.due("laid(3, 1)", x.laid(3, 1), EMPTY);
        });
    }

    private static void likeRows() {
        E.test(36, "like itself it stays as it is", () -> {
            for (int rack = 0; rack <= 2; rack++) {
                int which = rack;
                E.asked("like(" + rack + ", " + rack + ")", y -> y.like(which, which), Scene.BUSY);
            }
        });
        E.test(36, "as that is NOW: neither follows the other later", () -> {
            DartMind x = Scene.BUSY.make();
            x.like(3, 0);
            x.lays(0, 1, 30);
            E.due("laid(3, 1)", x.laid(3, 1), 62);
            x.lays(3, 2, 40);
            E.due("laid(0, 2)", x.laid(0, 2), 25);
            x.rack(0, 0, 0);
            E.due("laid(3, 2)", x.laid(3, 2), 40);
        });
        E.test(36, "its KIND, too, in place of the own one", () -> {
            DartMind x = Scene.BUSY.make();
            x.like(1, 0);
            E.due("lays(1, 0, 20)", x.lays(1, 0, 20), -16);
            E.due("lays(1, 0, 62)", x.lays(1, 0, 62), 1);
            E.due("lays(1, 3, 62)", x.lays(1, 3, 62), -12);
            x.like(1, 2);
            x.rack(1, 4, 1);
            E.due("lays(1, 0, 62)", x.lays(1, 0, 62), 1);
        });
        E.test(36, "a greater one leaves nothing behind a smaller one", () -> {
            DartMind x = Scene.BUSY.make();
            x.like(1, 0);
            x.rack(0, 0, 20);
            x.like(1, 0);
            E.due("laid(1, 19)", x.laid(1, 19), EMPTY);
            E.due("laid(1, 1)", x.laid(1, 1), EMPTY);
        });
    }

    private static void judgedNumbers() {
        E.test(37, "RACKS -1 and 4 are NONE", () -> {
            for (int rack : new int[] {-1, 4, MIN, MAX}) {
                E.refused("judged(" + rack + ", 0, 40)", -1, y -> y.judged(rack, 0, 40));
            }
        });
        E.test(37, "rest 501 is answered, 502 BAD", () -> {
            E.due("judged(2, 0, 501)", Scene.BUSY.make().judged(2, 0, 501), 1501);
            E.refused("judged(2, 0, 502)", -2, y -> y.judged(2, 0, 502));
            E.refused("judged(2, 0, max)", -2, y -> y.judged(2, 0, MAX));
        });
        E.test(37, "the LEAST REST is answered, what is below is BAD", () -> {
            E.due("MASTER: 2", Scene.BUSY.make().judged(2, 0, 2), 1002);
            E.due("DOUBLE: 2", with(0, 0).judged(0, 0, 2), 1002);
            DartMind x = with(0, 0);
            x.out(0);
            E.due("STRAIGHT: 1", x.judged(0, 0, 1), 1001);
            E.refused("judged(2, 0, 1)", -2, y -> y.judged(2, 0, 1), Scene.FRESH, Scene.BUSY, Scene.FULL);
            for (int rest : new int[] {0, -1, MIN}) {
                E.refused("judged(2, 0, " + rest + ")", -2, y -> y.judged(2, 0, rest));
            }
        });
        E.test(37, "-11 of a missing RACK", () -> E.refused("judged(3, 0, 40)", -11, y -> y.judged(3, 0, 40)));
        E.test(37, "places are 0 up to the size itself; -1 and one more are -12", () -> {
            DartMind x = Scene.BUSY.make();
            E.due("judged(1, 20, 40)", x.judged(1, 20, 40), 1040);
            E.due("judged(0, 3, 40)", x.judged(0, 3, 40), 1040);
            E.due("judged(2, 0, 40)", x.judged(2, 0, 40), 1040);
            E.refused("judged(1, 21, 40)", -12, y -> y.judged(1, 21, 40), Scene.BUSY);
            E.refused("judged(0, 4, 40)", -12, y -> y.judged(0, 4, 40), Scene.BUSY);
            E.refused("judged(2, 1, 40)", -12, y -> y.judged(2, 1, 40), Scene.BUSY);
            for (int i : new int[] {-1, MIN, MAX}) {
                E.refused("judged(1, " + i + ", 40)", -12, y -> y.judged(1, i, 40), Scene.BUSY);
            }
        });
        E.test(37, "NONE, then BAD, then -11, then -12", () -> {
            E.refused("judged(4, -1, 0)", -1, y -> y.judged(4, -1, 0));
            E.refused("judged(3, -1, 502)", -2, y -> y.judged(3, -1, 502));
            E.refused("judged(0, -1, 502)", -2, y -> y.judged(0, -1, 502), Scene.BUSY);
            E.refused("judged(3, -1, 40)", -11, y -> y.judged(3, -1, 40));
            E.refused("judged(3, 21, 40)", -11, y -> y.judged(3, 21, 40));
        });
        E.test(37, "what is asked changes nothing", () -> {
            E.asked("judged(0, 0, 100)", y -> y.judged(0, 0, 100), Scene.BUSY);
            E.asked("judged(1, 0, 25)", y -> y.judged(1, 0, 25), Scene.BUSY);
        });
    }

    private static void judgedRows() {
        E.test(37, "empty places are left out, and not numbered", () -> {
            DartMind x = with(0, 5);
            E.due("all are empty", x.judged(0, 0, 40), 1040);
            x.lays(0, 1, 20);
            x.lays(0, 3, 30);
            E.due("0 by the second SPOT", x.judged(0, 0, 40), 1);
            E.due("BUST by the second SPOT", x.judged(0, 0, 41), 101);
            E.due("BUST by the first SPOT", x.judged(0, 0, 20), 100);
        });
        E.test(37, "an empty place behind the last SPOT makes it no less the last one", () -> {
            DartMind x = with(0, 2);
            x.lays(0, 0, 40);
            E.due("judged(0, 0, 40)", x.judged(0, 0, 40), 0);
            x.lays(0, 1, 0);
            E.due("OUTSIDE does", x.judged(0, 0, 40), 200);
        });
        E.test(37, "from a place on: what stands ahead of it is left out, numbers begin there", () -> {
            DartMind x = with(0, 3);
            x.lays(0, 0, 60);
            x.lays(0, 1, 20);
            x.lays(0, 2, 40);
            E.due("from 0", x.judged(0, 0, 120), 2);
            E.due("from 1", x.judged(0, 1, 60), 1);
            E.due("from 2", x.judged(0, 2, 40), 0);
            E.due("from 3", x.judged(0, 3, 40), 1040);
        });
        E.test(37, "20 SPOTS in one row", () -> {
            DartMind x = with(0, 20);
            for (int i = 0; i < 20; i++) {
                x.lays(0, i, i == 19 ? 21 : 1);
            }
            E.due("0 by the last", x.judged(0, 0, 21), 19);
            E.due("BUST by the last", x.judged(0, 0, 22), 119);
            E.due("BUST by the one ahead of it", x.judged(0, 0, 20), 118);
            E.due("neither", x.judged(0, 0, 501), 1480);
        });
    }
}
