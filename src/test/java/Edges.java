import java.util.TreeMap;

/** Tests of boundary cases, each told by its promise's number and by the sentence that it would fail with. */
final class Edges {
    /** One call of an object. */
    interface Call {
        long of(DartMind x);
    }

    private static final Scene[] ALL = Scene.values();
    private final String name;
    private final Checks checks;
    private final TreeMap<Integer, Integer> counts = new TreeMap<>();
    private String now = "";

    Edges(String name) {
        this.name = name;
        this.checks = new Checks(name);
    }

    /** A test of its own for one sentence of a promise. */
    void test(int promise, String sentence, Runnable body) {
        now = "Promise " + promise + ": " + sentence + ": ";
        counts.merge(promise, 1, Integer::sum);
        body.run();
        now = "";
    }

    void due(String call, long got, long want) {
        checks.due(now + call, got, want);
    }

    void holds(String what, boolean is) {
        checks.holds(now + what, is);
    }

    void same(String what, String got, String want) {
        if (!got.equals(want)) {
            System.out.println(now + what + ": '" + got + "', due is '" + want + "'");
        }
        checks.holds(now + what, got.equals(want));
    }

    /** The call is refused by this answer in each of the SCENES (all of them, if none is told), and changes nothing. */
    void refused(String told, long want, Call call, Scene... scenes) {
        for (Scene scene : scenes.length == 0 ? ALL : scenes) {
            DartMind x = scene.make();
            due(scene + ": " + told, call.of(x), want);
            same(scene + ": behind " + told, Scene.read(x), Scene.read(scene.make()));
        }
    }

    /** The call is answered (by no refusal) in the SCENES, and changes nothing. */
    void asked(String told, Call call, Scene... scenes) {
        for (Scene scene : scenes.length == 0 ? ALL : scenes) {
            DartMind x = scene.make();
            call.of(x);
            same(scene + ": behind " + told, Scene.read(x), Scene.read(scene.make()));
        }
    }

    /** Ends; each promise from the first to the last one must have had its tests. */
    void end(int... promises) {
        int tests = 0;
        for (int promise : promises) {
            int count = counts.getOrDefault(promise, 0);
            checks.holds("Promise " + promise + " has tests", count > 0);
            tests += count;
        }
        System.out.println(name + ": " + tests + " tests");
        checks.end();
    }
}
