import java.util.ArrayList;
import java.util.List;

/** Runs of calls drawn by a fixed seed, each answer compared with the Oracle's. */
public final class RandomRunsTest {
    private static final int RUNS = 400;
    private static final int CALLS = 512;
    private static final int[] WILD = {Integer.MIN_VALUE, Integer.MAX_VALUE, -1, -2, 0, 1, 2, 63, 64, 181, 502, 25, 1000,
        -100, 1 << 30, -(1 << 30)};

    private final Checks checks;
    private final List<String> told = new ArrayList<>();
    private long state;
    private DartMind x;
    private Oracle y;
    // A run with hands from a small choice keeps the Oracle's tables few.
    private int[] weights;
    private int top;
    private int style;

    private RandomRunsTest(Checks checks) {
        this.checks = checks;
    }

    public static void main(String[] args) {
        int runs = args.length > 1 ? Integer.parseInt(args[1]) : RUNS;
        Checks checks = new Checks("RandomRunsTest");
        RandomRunsTest test = new RandomRunsTest(checks);
        for (int run = 0; run < runs && !checks.anyWrong(); run++) {
            test.run(run);
        }
        checks.end();
    }

    private int draw(int bound) {
        state = state * 6364136223846793005L + 1442695040888963407L;
        return (int) ((state >>> 33) % bound);
    }

    /** Mostly lowest .. highest, at times one beside, at times any. */
    private int from(int lowest, int highest) {
        int way = draw(60);
        if (way == 0) return WILD[draw(WILD.length)];
        if (way == 1) return lowest - 1;
        if (way == 2) return highest + 1;
        if (way == 3) return lowest;
        if (way == 4) return highest;
        return lowest + draw(highest - lowest + 1);
    }

    private void run(int run) {
        state = run * 7919L + 17;
        draw(2);
        x = new DartMind();
        y = new Oracle();
        told.clear();
        style = draw(5);
        weights = new int[] {0, 200, 60, 80, draw(201)};
        top = draw(3) == 0 ? 501 : 2 + draw(99);
        for (int i = 0; i < CALLS; i++) {
            if (!one()) {
                System.out.println("run " + run + ", call " + i + ": " + told);
                return;
            }
        }
    }

    private boolean same(String call, long got, long want) {
        told.add(call + "=" + want);
        return checks.due(call, got, want);
    }

    private boolean one() {
        switch (style) {
            case 0: return any(draw(39));
            case 1: return leg();
            case 2: return sums();
            case 3: return texts();
            default: return draw(2) == 0 ? any(draw(39)) : leg();
        }
    }

    private boolean leg() {
        int[] often = {22, 22, 22, 22, 23, 23, 24, 24, 31, 27, 27, 27, 26, 38, 39, 6, 21, 25, 4, 37};
        return any(often[draw(often.length)]);
    }

    private boolean sums() {
        int[] often = {4, 5, 6, 7, 8, 9, 10, 11, 12, 13, 14, 14, 15, 16, 17, 18, 19, 20, 39, 38};
        return any(often[draw(often.length)]);
    }

    private boolean texts() {
        int[] often = {28, 28, 28, 29, 30, 31, 30, 31, 32, 20, 27, 33, 34, 34, 34, 35, 36, 37, 37, 27};
        return any(often[draw(often.length)]);
    }

    private int smallRest() {
        return draw(6) == 0 ? from(1, 501) : from(1, top);
    }

    private int spot() {
        int way = draw(8);
        if (way == 0) return 0;
        if (way == 1) return 61 + draw(2);
        if (way == 2) return from(0, 62);
        if (way == 3) return 20 + 1 + draw(20);
        if (way == 4) return finishing();
        return draw(63);
    }

    /** A DOUBLE that would leave 0, if there is one. */
    private int finishing() {
        int rest = x.told(10 + 10 * x.told(0));
        return rest >= 2 && rest <= 40 && rest % 2 == 0 ? 20 + rest / 2 : rest == 50 ? 62 : rest >= 1 && rest <= 20 ? rest : 60;
    }

    private boolean any(int promise) {
        int a;
        int b;
        int c;
        switch (promise) {
            case 2: a = from(0, 62); b = from(0, 3); return same("spot(" + a + "," + b + ")", x.spot(a, b), y.spot(a, b));
            case 3: a = from(0, 62); b = from(0, 5); return same("under(" + a + "," + b + ")", x.under(a, b), y.under(a, b));
            case 4: return hand();
            case 5: return fall();
            case 6: a = from(0, 2); return same("out(" + a + ")", x.out(a), y.out(a));
            case 7: a = smallRest(); b = spot(); return same("falls(" + a + "," + b + ")", x.falls(a, b), y.falls(a, b));
            case 8: a = from(0, 1); b = smallRest(); return same("darts(" + a + "," + b + ")", x.darts(a, b), y.darts(a, b));
            case 9: a = from(0, 1); b = smallRest(); return same("dartsCut(" + a + "," + b + ")", x.dartsCut(a, b), y.dartsCut(a, b));
            case 10: a = from(0, 1); b = smallRest(); return same("thousandths(" + a + "," + b + ")", x.thousandths(a, b), y.thousandths(a, b));
            case 11: a = from(0, 1); b = smallRest(); return same("aim(" + a + "," + b + ")", x.aim(a, b), y.aim(a, b));
            case 12: a = from(0, 1); b = from(1, 180); c = from(0, 3);
                return same("chance(" + a + "," + b + "," + c + ")", x.chance(a, b, c), y.chance(a, b, c));
            case 13: a = from(0, 1); b = from(1, 180); c = from(0, 3);
                return same("chanceAim(" + a + "," + b + "," + c + ")", x.chanceAim(a, b, c), y.chanceAim(a, b, c));
            case 14: a = from(1, 24); b = from(1, 24); c = from(0, 1);
                return same("race(" + a + "," + b + "," + c + ")", x.race(a, b, c), y.race(a, b, c));
            case 15: a = from(1, 24); b = from(1, 24); c = from(0, 1);
                return same("raceAim(" + a + "," + b + "," + c + ")", x.raceAim(a, b, c), y.raceAim(a, b, c));
            case 16: a = from(1, 24); b = from(1, 24); return same("settled(" + a + "," + b + ")", x.settled(a, b), y.settled(a, b));
            case 17: a = from(1, 24); b = from(1, 24); return same("percent(" + a + "," + b + ")", x.percent(a, b), y.percent(a, b));
            case 18: a = from(1, 180); b = from(0, 3); return same("ways(" + a + "," + b + ")", x.ways(a, b), y.ways(a, b));
            case 19: a = from(1, 180); b = finish(a); c = from(-1, 2);
                return same("way(" + a + "," + b + "," + c + ")", x.way(a, b, c), y.way(a, b, c));
            case 20: a = from(1, 180); b = finish(a); return same("spell(" + a + "," + b + ")", x.spell(a, b), y.spell(a, b));
            case 21: a = draw(3) == 0 ? from(2, 501) : from(2, top); return same("start(" + a + ")", x.start(a), y.start(a));
            case 22: a = spot(); return same("thrown(" + a + ")", x.thrown(a), y.thrown(a));
            case 23: a = from(1, 62); return same("throwsAt(" + a + ")", x.throwsAt(a), y.throwsAt(a));
            case 24: a = from(1, 12); return same("minds(" + a + ")", x.minds(a), y.minds(a));
            case 25: a = draw(2) == 0 ? WILD[draw(WILD.length)] : (int) state; return same("seed(" + a + ")", x.seed(a), y.seed(a));
            case 26: a = from(0, 1); return same("average(" + a + ")", x.average(a), y.average(a));
            case 27: a = from(0, 25); return same("told(" + a + ")", x.told(a), y.told(a));
            case 28: return feedText();
            case 29: return same("clear()", x.clear(), y.clear());
            case 30: a = draw(4) == 0 ? from(1, 501) : from(1, 180); return same("judge(" + a + ")", x.judge(a), y.judge(a));
            case 31: return (draw(2) == 0 || feedText()) && same("play()", x.play(), y.play());
            case 32: a = from(0, 10); return same("paper(" + a + ")", x.paper(a), y.paper(a));
            default: return racks(promise);
        }
    }

    private boolean racks(int promise) {
        int a = from(0, 3);
        int b;
        int c;
        switch (promise) {
            case 33: b = from(0, 5); c = from(0, 20); return same("rack(" + a + "," + b + "," + c + ")", x.rack(a, b, c), y.rack(a, b, c));
            case 34: b = from(0, 9); c = draw(5) == 0 ? -1 : spot();
                return same("lays(" + a + "," + b + "," + c + ")", x.lays(a, b, c), y.lays(a, b, c));
            case 35: b = from(0, 9); return same("laid(" + a + "," + b + ")", x.laid(a, b), y.laid(a, b));
            case 36: b = from(0, 3); return same("like(" + a + "," + b + ")", x.like(a, b), y.like(a, b));
            case 37: b = from(0, 12); c = draw(3) == 0 ? from(1, 501) : from(1, 120);
                return same("judged(" + a + "," + b + "," + c + ")", x.judged(a, b, c), y.judged(a, b, c));
            case 38: return same("image()", x.image(), y.image());
            default: return same("undo()", x.undo(), y.undo());
        }
    }

    private boolean hand() {
        int a = from(0, 1);
        int b = from(0, 1);
        int c = draw(12) == 0 ? from(0, 200) : weights[draw(weights.length)];
        return same("hand(" + a + "," + b + "," + c + ")", x.hand(a, b, c), y.hand(a, b, c));
    }

    private boolean fall() {
        int a = from(0, 1);
        int b = from(1, 62);
        int c = from(-1, 4);
        int d = from(0, 1);
        return same("fall(" + a + "," + b + "," + c + "," + d + ")", x.fall(a, b, c, d), y.fall(a, b, c, d));
    }

    private int finish(int rest) {
        int all = (int) y.ways(rest, 0);
        int way = draw(6);
        if (way == 0) return from(0, 3);
        if (way == 1) return all - 1 + draw(3) - 1;
        return all > 0 ? draw(all) : from(0, 1);
    }

    /** Feeds SPOTS or single bytes that are nearly SPOTS. */
    private boolean feedText() {
        StringBuilder text = new StringBuilder();
        if (draw(4) == 0) {
            text.append(draw(12) == 0 ? (char) draw(130) : "SDTOBU- 0123459x".charAt(draw(16)));
        } else {
            int words = 1 + draw(draw(4) == 0 ? 14 : 4);
            for (int i = 0; i < words; i++) {
                text.append(i > 0 || x.told(7) > 0 && draw(8) > 0 ? " " : "").append(word());
            }
        }
        for (int i = 0; i < text.length(); i++) {
            char letter = text.charAt(i);
            if (!same("feed(" + (int) letter + ")", x.feed(letter), y.feed(letter))) return false;
        }
        return true;
    }

    private String word() {
        int way = draw(24);
        if (way == 0) return "OB";
        if (way == 1) return "BU";
        if (way <= 4) return "-";
        int n = draw(20) == 0 ? draw(100) : 1 + draw(20);
        return "SDT".charAt(draw(3)) + (draw(4) == 0 && n < 10 ? "0" : "") + n;
    }
}
