/** The boundary cases of promises 38 and 39: THE IMAGE. */
public final class EdgesImageTest {
    private static final Edges E = new Edges("EdgesImageTest");

    public static void main(String[] args) {
        image();
        undo();
        parts();
        E.end(38, 39);
    }

    private static void image() {
        E.test(38, "LEGS of both together, 0 at first", () -> {
            DartMind x = new DartMind();
            E.due("image()", x.image(), 0);
            x.start(40);
            x.thrown(40);
            E.due("PLAYER 0 won", x.image(), 1);
            x.thrown(40);
            E.due("both won", x.image(), 2);
        });
        E.test(38, "nothing but THE IMAGE becomes another", () -> {
            DartMind x = Scene.FULL.make();
            x.image();
            DartMind y = Scene.FULL.make();
            for (int what = 0; what <= 25; what++) {
                E.due("told(" + what + ")", x.told(what), y.told(what));
            }
            E.due("judge(501)", x.judge(501), y.judge(501));
        });
        E.test(38, "the latest one counts", () -> {
            DartMind x = new DartMind();
            x.image();
            x.thrown(20);
            x.image();
            x.thrown(20);
            x.undo();
            E.due("told(10)", x.told(10), 281);
        });
    }

    private static void undo() {
        E.test(39, "STATE: there is none", () -> E.refused("undo()", -3, y -> y.undo(), Scene.FRESH, Scene.FULL));
        E.test(39, "LEGS of both together, as they were", () -> {
            DartMind x = new DartMind();
            x.start(40);
            x.thrown(40);
            x.thrown(40);
            x.image();
            x.thrown(40);
            E.due("undo()", x.undo(), 2);
            E.due("LEGS of PLAYER 0", x.told(11), 1);
            E.due("LEGS of PLAYER 1", x.told(21), 1);
        });
        E.test(39, "THE IMAGE stays: undone again, however often", () -> {
            DartMind x = new DartMind();
            x.image();
            for (int i = 0; i < 3; i++) {
                x.thrown(20);
                E.due("undo()", x.undo(), 0);
                E.due("told(10)", x.told(10), 301);
            }
        });
        E.test(39, "undone at once it changes nothing", () -> {
            DartMind x = Scene.BUSY.make();
            x.image();
            String told = told(x);
            x.undo();
            E.same("told", told(x), told);
        });
        E.test(39, "what comes behind undo() doesn't change THE IMAGE", () -> {
            DartMind x = new DartMind();
            x.image();
            x.undo();
            x.hand(0, 0, 5);
            x.start(100);
            x.thrown(20);
            x.undo();
            E.due("told(14)", x.told(14), 60);
            E.due("told(3)", x.told(3), 301);
            E.due("told(10)", x.told(10), 301);
        });
    }

    private static String told(DartMind x) {
        StringBuilder text = new StringBuilder();
        for (int what = 0; what <= 25; what++) {
            text.append(x.told(what)).append(' ');
        }
        return text.toString();
    }

    private static void parts() {
        E.test(39, "SIDE, R, REST, LEGS, THROWN, POINTS of both; OUT, START and THE LEG; SEED", () -> {
            DartMind x = new DartMind();
            x.hand(0, 0, 1);
            x.hand(0, 1, 2);
            x.hand(1, 0, 3);
            x.hand(1, 1, 4);
            x.start(60);
            x.thrown(20);
            x.thrown(40);
            x.thrown(10);
            x.out(2);
            x.seed(77);
            String then = told(x);
            x.image();
            for (int i = 0; i < 4; i++) {
                x.hand(i / 2, i % 2, 100);
            }
            x.thrown(50);
            x.thrown(10);
            x.start(301);
            x.out(0);
            x.throwsAt(20);
            x.thrown(1);
            x.undo();
            E.same("told", told(x), then);
        });
        E.test(39, "who began and who is to throw, LEFT, REST as the VISIT began, for each of the two", () -> {
            DartMind x = new DartMind();
            x.start(60);
            x.thrown(20);
            String then = told(x);
            x.image();
            x.thrown(40);
            x.thrown(10);
            x.thrown(10);
            E.due("who began", x.told(2), 1);
            E.due("who is to throw", x.told(0), 1);
            x.undo();
            E.same("PLAYER 0 is to throw, who began", told(x), then);
            x.thrown(40);
            x.thrown(10);
            x.thrown(20);
            then = told(x);
            x.image();
            x.thrown(40);
            x.thrown(20);
            x.thrown(40);
            E.due("LEGS", x.told(11) + x.told(21), 2);
            x.start(77);
            x.undo();
            E.same("PLAYER 1 is to throw, who began", told(x), then);
        });
        E.test(39, "THE TAPE, THE PAPER, RACKS stay", () -> {
            DartMind x = new DartMind();
            Scene.feed(x, "S1");
            x.spell(2, 0);
            x.rack(0, 2, 1);
            x.image();
            Scene.feed(x, " D1");
            x.spell(170, 0);
            x.lays(0, 0, 21);
            x.rack(1, 0, 2);
            x.undo();
            E.due("told(7)", x.told(7), 5);
            E.same("THE PAPER", Scene.paper(x), "T20 T20 BU");
            E.due("laid(0, 0)", x.laid(0, 0), 21);
            E.due("laid(1, 1)", x.laid(1, 1), -5);
            E.due("judge(3)", x.judge(3), 1);
        });
        E.test(39, "a REST of 1 by STRAIGHT comes back with its OUT, and refuses another", () -> {
            DartMind x = Scene.ONE.make();
            x.start(2);
            x.out(1);
            x.undo();
            E.due("told(4)", x.told(4), 0);
            E.due("told(10)", x.told(10), 1);
            E.due("told(5)", x.told(5), 1);
            E.due("out(1)", x.out(1), -3);
            E.due("thrown(1)", x.thrown(1), 0);
        });
        E.test(39, "a REST of 1 goes with it: OUT may become another again", () -> {
            DartMind x = new DartMind();
            x.start(2);
            x.image();
            x.out(0);
            x.thrown(1);
            E.due("out(1)", x.out(1), -3);
            x.undo();
            E.due("out(2)", x.out(2), 1);
        });
        E.test(39, "DARTS, CHANCE, THE RACE, FINISHES are by the hands and OUT of THE IMAGE at once", () -> {
            DartMind x = new DartMind();
            x.image();
            x.hand(0, 0, 9);
            x.hand(1, 1, 9);
            x.out(0);
            long other = x.darts(0, 60) + x.chance(1, 60, 2) + x.race(5, 6, 0) + x.ways(60, 0);
            x.undo();
            DartMind y = new DartMind();
            E.due("darts(0, 60)", x.darts(0, 60), y.darts(0, 60));
            E.due("chance(1, 60, 2)", x.chance(1, 60, 2), y.chance(1, 60, 2));
            E.due("race(5, 6, 0)", x.race(5, 6, 0), y.race(5, 6, 0));
            E.due("ways(60, 0)", x.ways(60, 0), y.ways(60, 0));
            E.due("fall(1, 1, 3, 1)", x.fall(1, 1, 3, 1), 80);
            E.holds("another than ahead of undo()",
                    other != x.darts(0, 60) + x.chance(1, 60, 2) + x.race(5, 6, 0) + x.ways(60, 0));
        });
    }
}
