/** The boundary cases of promises 28 to 31: THE TAPE, PATHS and their FAULTS, JUDGED and played. */
public final class EdgesTextsTest {
    private static final int MIN = Integer.MIN_VALUE, MAX = Integer.MAX_VALUE;
    private static final Edges E = new Edges("EdgesTextsTest");

    public static void main(String[] args) {
        feed();
        clear();
        judgeNumbers();
        judged();
        for (int promise = 30; promise <= 31; promise++) {
            spots(promise);
            numbers(promise);
            blanks(promise);
            ends(promise);
            emptied(promise);
        }
        play();
        E.end(28, 29, 30, 31);
    }

    private static void feed() {
        E.test(28, "a byte is 1 .. 127; 0 and 128 are BAD", () -> {
            DartMind x = new DartMind();
            E.due("feed(1)", x.feed(1), 1);
            E.due("feed(127)", x.feed(127), 2);
            for (int letter : new int[] {0, 128, -1, MIN, MAX}) {
                E.refused("feed(" + letter + ")", -2, y -> y.feed(letter));
            }
        });
        E.test(28, "the 60th byte is taken, the 61st is FULL", () -> {
            DartMind x = new DartMind();
            for (int i = 1; i <= 60; i++) {
                E.due("byte " + i, x.feed(45), i);
            }
            E.due("byte 61", x.feed(45), -4);
            E.due("told(7)", x.told(7), 60);
            E.refused("feed(45)", -4, y -> y.feed(45), Scene.FULL);
        });
        E.test(28, "BAD comes ahead of FULL", () -> {
            E.refused("feed(0)", -2, y -> y.feed(0), Scene.FULL);
            E.refused("feed(128)", -2, y -> y.feed(128), Scene.FULL);
        });
        E.test(28, "a byte comes behind those that are there", () -> {
            DartMind x = new DartMind();
            Scene.feed(x, "S1");
            E.due("feed('2')", x.feed('2'), 3);
            E.due("S12", x.judge(100), 1088);
        });
        E.test(28, "a full TAPE that was emptied takes bytes again", () -> {
            DartMind x = Scene.FULL.make();
            x.clear();
            E.due("feed(45)", x.feed(45), 1);
        });
    }

    private static void clear() {
        E.test(29, "0 of an empty TAPE, 60 of a full one", () -> {
            E.due("empty", new DartMind().clear(), 0);
            E.due("full", Scene.FULL.make().clear(), 60);
            E.due("5 bytes", Scene.BUSY.make().clear(), 5);
        });
        E.test(29, "THE TAPE is empty then, and stays so", () -> {
            DartMind x = Scene.FULL.make();
            x.clear();
            E.due("told(7)", x.told(7), 0);
            E.due("clear()", x.clear(), 0);
            E.due("judge(2) of nothing", x.judge(2), -100);
        });
        E.test(29, "nothing but THE TAPE becomes another", () -> {
            DartMind x = Scene.BUSY.make();
            x.clear();
            Scene.feed(x, "D5 S1");
            E.same("all else", Scene.read(x), Scene.read(Scene.BUSY.make()));
        });
    }

    private static int judge(int out, String text, int rest) {
        DartMind x = new DartMind();
        x.out(out);
        Scene.feed(x, text);
        return x.judge(rest);
    }

    private static void judgeNumbers() {
        E.test(30, "rest 501 is answered, 502 BAD, and THE TAPE stays", () -> {
            E.due("501", judge(1, "-", 501), 1501);
            E.refused("judge(502)", -2, y -> y.judge(502));
            E.refused("judge(max)", -2, y -> y.judge(MAX));
        });
        E.test(30, "the LEAST REST is answered, what is below is BAD, and THE TAPE stays", () -> {
            E.due("DOUBLE: 2", judge(1, "D1", 2), 0);
            E.due("MASTER: 2", judge(2, "D1", 2), 0);
            E.due("STRAIGHT: 1", judge(0, "S1", 1), 0);
            E.due("MASTER: 1", judge(2, "S1", 1), -2);
            E.refused("judge(1)", -2, y -> y.judge(1), Scene.FRESH, Scene.BUSY, Scene.FULL);
            for (int rest : new int[] {0, -1, MIN}) {
                E.refused("judge(" + rest + ")", -2, y -> y.judge(rest));
            }
        });
        E.test(30, "BAD comes ahead of a FAULT", () -> {
            DartMind x = new DartMind();
            Scene.feed(x, "x");
            E.due("judge(0)", x.judge(0), -2);
            E.due("told(7)", x.told(7), 1);
            E.due("judge(2)", x.judge(2), -100);
        });
        E.test(30, "nothing is thrown: but THE TAPE all is as it was", () -> {
            DartMind x = Scene.BUSY.make();
            x.judge(60);
            Scene.feed(x, "D5 S1");
            E.same("all else", Scene.read(x), Scene.read(Scene.BUSY.make()));
        });
    }

    private static void judged() {
        E.test(30, "of the first that is BUST 100 and its number, 0 the first", () -> {
            E.due("the first", judge(1, "S2", 2), 100);
            E.due("the second", judge(1, "S1 S1", 3), 101);
            E.due("the twelfth", judge(1, "- - - - - - - - - - - S2", 2), 111);
            E.due("two of them", judge(1, "S2 S2", 2), 100);
        });
        E.test(30, "of the first that leaves 0 its number, if it is the last one", () -> {
            E.due("the first", judge(1, "D1", 2), 0);
            E.due("the third", judge(1, "T20 T20 BU", 170), 2);
            E.due("the twelfth", judge(1, "- - - - - - - - - - - D1", 2), 11);
        });
        E.test(30, "else 200 and its number, whatever stands behind it", () -> {
            E.due("the first of two", judge(1, "D1 D1", 2), 200);
            E.due("the first of two, OUTSIDE behind", judge(1, "D1 -", 2), 200);
            E.due("the eleventh of twelve", judge(1, "- - - - - - - - - - D1 -", 2), 210);
        });
        E.test(30, "BUST ahead of one that would leave 0, and the other way", () -> {
            E.due("BUST first", judge(1, "S1 D1", 2), 100);
            E.due("0 first", judge(1, "D1 T20", 2), 200);
        });
        E.test(30, "neither: 1000 and the rest at the end", () -> {
            E.due("to 2", judge(1, "S1", 3), 1002);
            E.due("STRAIGHT: to 1", judge(0, "S1", 2), 1001);
            E.due("501 stays", judge(1, "- - -", 501), 1501);
        });
        E.test(30, "as if none were a VISIT: more than 3 in one row", () -> {
            E.due("four", judge(1, "T20 T20 T20 D20", 220), 3);
            E.due("BUST by the fifth", judge(1, "T20 T20 T20 S20 S20", 220), 104);
        });
        E.test(30, "by OUT as it is now", () -> {
            E.due("DOUBLE: T20", judge(1, "T20", 60), 100);
            E.due("MASTER: T20", judge(2, "T20", 60), 0);
            E.due("MASTER: S20", judge(2, "S20", 20), 100);
            E.due("STRAIGHT: S20", judge(0, "S20", 20), 0);
            E.due("STRAIGHT: OB", judge(0, "OB", 25), 0);
            E.due("DOUBLE: BU", judge(1, "BU", 50), 0);
        });
    }

    /** The FAULT of a text by judge() or play(), in a FULL sight: -1, if there is none. */
    private static void fault(int promise, String text, int want) {
        DartMind x = new DartMind();
        x.start(501);
        Scene.feed(x, text);
        int got = promise == 30 ? x.judge(501) : x.play();
        if (want == -1) {
            E.holds("'" + text + "' is a PATH", got >= 0);
        } else {
            E.due("'" + text + "'", got, -100 - want);
            E.due("THROWN behind '" + text + "'", x.told(12), 0);
        }
        E.due("THE TAPE behind '" + text + "'", x.told(7), 0);
    }

    private static void spots(int promise) {
        E.test(promise, "a SPOT's first byte is S, D, T, O, B or -: any other one is the FAULT", () -> {
            for (int letter = 1; letter <= 127; letter++) {
                boolean numbered = letter == 'S' || letter == 'D' || letter == 'T';
                boolean word = letter == 'O' || letter == 'B';
                fault(promise, String.valueOf((char) letter), letter == '-' ? -1 : numbered || word ? 1 : 0);
            }
        });
        E.test(promise, "OB and BU are whole, their second byte alone may stand there", () -> {
            fault(promise, "OB", -1);
            fault(promise, "BU", -1);
            fault(promise, "OU", 1);
            fault(promise, "BB", 1);
            fault(promise, "Ob", 1);
            fault(promise, "O B", 1);
            fault(promise, "B ", 1);
            fault(promise, "OBU", 2);
            fault(promise, "BU1", 2);
            fault(promise, "T20 O", 5);
            fault(promise, "T20 OX", 5);
        });
        E.test(promise, "OUTSIDE is one byte", () -> {
            fault(promise, "-", -1);
            fault(promise, "--", 1);
            fault(promise, "-1", 1);
            fault(promise, "S-", 1);
        });
    }

    private static void numbers(int promise) {
        E.test(promise, "a number is 1 .. 20; 0 and 21 are the FAULT where they begin", () -> {
            for (String letter : new String[] {"S", "D", "T"}) {
                fault(promise, letter + "1", -1);
                fault(promise, letter + "20", -1);
                fault(promise, letter + "0", 1);
                fault(promise, letter + "21", 1);
                fault(promise, letter + "99", 1);
                fault(promise, "- " + letter + "0", 3);
                fault(promise, "- " + letter + "30", 3);
            }
        });
        E.test(promise, "S05 is 5, S00 may not be", () -> {
            fault(promise, "S05", -1);
            fault(promise, "S01", -1);
            fault(promise, "S09", -1);
            fault(promise, "S00", 1);
            E.due("S05", judge(1, "S05", 100), 1095);
            E.due("T09", judge(1, "T09", 100), 1073);
        });
        E.test(promise, "2 figures at most: a third one is the first byte too many", () -> {
            fault(promise, "S200", 3);
            fault(promise, "S005", 1);
            fault(promise, "S050", 3);
            fault(promise, "S123", 3);
            fault(promise, "S210", 1);
        });
        E.test(promise, "as many figures as stand there", () -> {
            E.due("S1", judge(1, "S1", 100), 1099);
            E.due("S12", judge(1, "S12", 100), 1088);
            E.due("S2 0", judge(1, "S2 S1", 100), 1097);
        });
        E.test(promise, "no figure at all: the byte that stands there, or the length", () -> {
            fault(promise, "S", 1);
            fault(promise, "Sx", 1);
            fault(promise, "S ", 1);
            fault(promise, "SS1", 1);
            fault(promise, "S/", 1);
            fault(promise, "S:", 1);
            fault(promise, "S1/", 2);
            fault(promise, "S1:", 2);
        });
        E.test(promise, "a number that may not be is looked at ahead of the byte behind it", () -> {
            fault(promise, "S0x", 1);
            fault(promise, "S21x", 1);
            fault(promise, "S99 S1", 1);
            fault(promise, "S20x", 3);
        });
    }

    private static void blanks(int promise) {
        E.test(promise, "one blank each: two are the FAULT at the second", () -> {
            fault(promise, "S1 D1", -1);
            fault(promise, "S1  D1", 3);
            fault(promise, "-  -", 2);
        });
        E.test(promise, "no blank ahead of the first or behind the last", () -> {
            fault(promise, " ", 0);
            fault(promise, " -", 0);
            fault(promise, "- ", 2);
            fault(promise, "T20 ", 4);
        });
        E.test(promise, "none at all between two is the FAULT where the second begins", () -> {
            fault(promise, "S1D1", 2);
            fault(promise, "S1-", 2);
            fault(promise, "OB-", 2);
            fault(promise, "S1,D1", 2);
        });
    }

    private static void ends(int promise) {
        E.test(promise, "nothing is no PATH: FAULT 0", () -> fault(promise, "", 0));
        E.test(promise, "1 SPOT and 12 are a PATH, a thirteenth's blank is the FAULT", () -> {
            fault(promise, "-", -1);
            fault(promise, "- - - - - - - - - - - -", -1);
            fault(promise, "- - - - - - - - - - - - ", 23);
            fault(promise, "- - - - - - - - - - - - -", 23);
            fault(promise, "- - - - - - - - - - - -x", 23);
        });
        E.test(promise, "12 SPOTS of all lengths up to 47 bytes", () -> {
            fault(promise, "S01 S01 S01 S01 S01 S01 S01 S01 S01 S01 S01 S01", -1);
            fault(promise, "S01 S01 S01 S01 S01 S01 S01 S01 S01 S01 S01 S01 ", 47);
            fault(promise, "S01 S01 S01 S01 S01 S01 S01 S01 S01 S01 S01 S1D", 46);
        });
        E.test(promise, "the length, if it ends too early", () -> {
            fault(promise, "T20 T20 T", 9);
            fault(promise, "T20 T20 B", 9);
            fault(promise, "T20 T20 ", 8);
            fault(promise, "T20 T20 O", 9);
        });
        E.test(promise, "a full TAPE: its FAULT is where no PATH goes on", () -> {
            DartMind x = Scene.FULL.make();
            int got = promise == 30 ? x.judge(501) : x.play();
            E.due("18 SPOTS", got, -100 - 39);
        });
    }

    private static void emptied(int promise) {
        E.test(promise, "THE TAPE is empty behind it, with a FAULT or without", () -> {
            for (String text : new String[] {"D1", "", "x", "S21", "- ", "T20 T20 T20 T20"}) {
                DartMind x = new DartMind();
                Scene.feed(x, text);
                long got = promise == 30 ? x.judge(60) : x.play();
                E.due("told(7) behind '" + text + "'", x.told(7), 0);
                E.due("feed(45)", x.feed(45), 1);
            }
        });
        E.test(promise, "a shorter text behind a longer one takes nothing of that", () -> {
            DartMind x = new DartMind();
            Scene.feed(x, "OB");
            x.judge(501);
            Scene.feed(x, "O");
            E.due("O", promise == 30 ? x.judge(501) : x.play(), -101);
            Scene.feed(x, "S12");
            E.due("S12", x.judge(501), 1489);
            Scene.feed(x, "S1");
            E.due("S1", x.judge(501), 1500);
            Scene.feed(x, "S");
            E.due("S", promise == 30 ? x.judge(501) : x.play(), -101);
        });
    }

    private static void play() {
        E.test(31, "a text with a FAULT throws nothing, also of the SPOTS ahead of it", () -> {
            DartMind x = Scene.BUSY.make();
            x.clear();
            Scene.feed(x, "D5 S1 S21");
            E.due("play()", x.play(), -107);
            Scene.feed(x, "D5 S1");
            E.same("all is as it was", Scene.read(x), Scene.read(Scene.BUSY.make()));
        });
        E.test(31, "no LEG, one, and as many as SPOTS", () -> {
            DartMind x = new DartMind();
            x.start(40);
            E.due("none", play(x, "S1"), 0);
            x.start(40);
            E.due("one", play(x, "D20"), 1);
            E.due("twelve", play(x, "D20 D20 D20 D20 D20 D20 D20 D20 D20 D20 D20 D20"), 12);
            E.due("LEGS of both", x.told(11) + x.told(21), 13);
        });
        E.test(31, "its DARTS are thrown by whoever is to throw, VISITS and BUSTS and all", () -> {
            DartMind x = new DartMind();
            x.start(40);
            // S20 S20 is BUST by the SINGLE, D18 at 37 by leaving 1.
            E.due("play()", play(x, "S1 S1 S1 S20 S20 - D18 S1"), 0);
            E.due("who is to throw", x.told(0), 1);
            E.due("LEFT", x.told(1), 2);
            E.due("REST of PLAYER 0", x.told(10), 37);
            E.due("REST of PLAYER 1", x.told(20), 39);
            E.due("THROWN of PLAYER 0", x.told(12), 5);
            E.due("THROWN of PLAYER 1", x.told(22), 3);
        });
        E.test(31, "what a BUST leaves unthrown of a VISIT is the other one's", () -> {
            DartMind x = new DartMind();
            x.start(40);
            E.due("play()", play(x, "T20 D20"), 1);
            E.due("LEGS of PLAYER 1", x.told(21), 1);
        });
    }

    private static int play(DartMind x, String text) {
        Scene.feed(x, text);
        return x.play();
    }
}
