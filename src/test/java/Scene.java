/** Objects as they stand behind some calls: a refused call must leave each of them as it was. */
enum Scene {
    FRESH {
        DartMind make() {
            return new DartMind();
        }
    },
    /** Hands of their own, a LEG won, within a VISIT, RACKS, a text on THE TAPE, THE PAPER written, THE IMAGE taken. */
    BUSY {
        DartMind make() {
            DartMind x = new DartMind();
            x.hand(0, 0, 31);
            x.hand(1, 1, 47);
            x.start(60);
            x.thrown(60);
            x.thrown(20);
            x.thrown(40);
            x.seed(99);
            x.image();
            x.out(2);
            x.start(101);
            x.thrown(19);
            x.thrown(0);
            x.thrown(7);
            x.thrown(50);
            x.thrown(3);
            x.rack(0, 2, 3);
            x.lays(0, 1, 62);
            x.lays(0, 2, 25);
            x.rack(1, 0, 20);
            x.lays(1, 0, 0);
            x.lays(1, 19, 61);
            x.rack(2, 5, 0);
            feed(x, "D5 S1");
            x.spell(60, 5);
            return x;
        }
    },
    /** THE TAPE is full. */
    FULL {
        DartMind make() {
            DartMind x = new DartMind();
            feed(x, "T20 D01 S19 - OB BU T20 D01 S19 - OB BU T20 D01 S19 - OB BU ");
            return x;
        }
    },
    /** OUT is STRAIGHT, and the REST of the one who is to throw is 1, as the VISIT began, too. */
    ONE {
        DartMind make() {
            DartMind x = new DartMind();
            x.out(0);
            x.start(2);
            x.thrown(1);
            x.thrown(0);
            x.thrown(0);
            x.thrown(0);
            x.thrown(0);
            x.thrown(0);
            x.image();
            return x;
        }
    };

    abstract DartMind make();

    static void feed(DartMind x, String text) {
        for (int i = 0; i < text.length(); i++) {
            x.feed(text.charAt(i));
        }
    }

    static String paper(DartMind x) {
        StringBuilder text = new StringBuilder();
        for (int i = 0; i < x.told(8); i++) {
            text.append((char) x.paper(i));
        }
        return text.toString();
    }

    /** All that can be seen of an object, by fewer than 300 calls; it is worn out behind this. */
    static String read(DartMind x) {
        StringBuilder text = new StringBuilder();
        readToldAnd(x, text);
        text.append(" PAPER '").append(paper(x)).append('\'');
        readRacks(x, text);
        readSums(x, text);
        text.append(" TAPE ").append(x.judge(501));
        text.append(" UNDO ").append(x.undo());
        readToldAnd(x, text);
        readKinds(x, text);
        return text.toString();
    }

    private static void readToldAnd(DartMind x, StringBuilder text) {
        for (int what = 0; what <= 25; what++) {
            text.append(' ').append(what).append(':').append(x.told(what));
        }
    }

    private static void readRacks(DartMind x, StringBuilder text) {
        for (int rack = 0; rack < 4; rack++) {
            text.append(" RACK ").append(rack);
            for (int i = 0; i <= 20 && x.laid(rack, i) >= -5; i++) {
                text.append(' ').append(x.laid(rack, i));
            }
            text.append(x.laid(rack, 0) == -11 ? " missing" : "");
        }
    }

    private static void readSums(DartMind x, StringBuilder text) {
        for (int player = 0; player < 2; player++) {
            text.append(" SUMS ").append(x.fall(player, 33, 0, 1)).append(' ').append(x.darts(player, 61));
            text.append(' ').append(x.aim(player, 61)).append(' ').append(x.chance(player, 61, 2));
            text.append(' ').append(x.chanceAim(player, 61, 2)).append(' ').append(x.race(7, 8, player));
            text.append(' ').append(x.average(player));
        }
        text.append(' ').append(x.ways(61, 0)).append(' ').append(x.falls(2, 1));
    }

    /** What each RACK takes at its place 0: the last reading, as it lays. */
    private static void readKinds(DartMind x, StringBuilder text) {
        int[] spots = {0, 1, 21, 41, 61, 62};
        for (int rack = 0; rack < 4; rack++) {
            for (int spot : spots) {
                text.append(' ').append(x.lays(rack, 0, spot));
            }
        }
    }
}
