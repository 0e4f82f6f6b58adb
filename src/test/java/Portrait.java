// What a bridge shows of itself, as a text: two bridges with equal texts are in the same state.
// Each part asks a bridge of its own, so that none is used for more than 512 calls.
final class Portrait {
    private static final int LONGEST = 420;

    private Portrait() {
    }

    // Makes one and the same bridge, as often as it is asked for.
    interface Scene {
        DecadeBridge set();
    }

    // Everything: the state, the buffer, the error position and the report.
    static String whole(Scene scene) {
        return state(scene) + texts(scene) + report(scene);
    }

    // What a scene holds but for texts and report, also what only undo, restore and the next draws show.
    static String state(Scene scene) {
        StringBuilder text = new StringBuilder(now(scene.set()));
        for (int undos = 1; undos <= 9; undos++) {
            DecadeBridge bridge = scene.set();
            int left = 0;
            for (int i = 0; i < undos; i++) {
                left = bridge.undo();
            }
            add(text, "undone", undos, left);
            text.append(now(bridge));
        }
        for (int slot = 0; slot < 2; slot++) {
            DecadeBridge bridge = scene.set();
            add(text, "restored", slot, bridge.restore(slot));
            text.append(now(bridge));
        }
        DecadeBridge bridge = scene.set();
        add(text, "rested", bridge.rest(1), bridge.read());
        return text.append(now(bridge)).toString();
    }

    // The error position and the buffer, as its length and as what load and run make of it.
    static String texts(Scene scene) {
        StringBuilder text = new StringBuilder();
        DecadeBridge bridge = scene.set();
        add(text, "errorPosition, buffer", bridge.errorPosition(), bridge.feed(0, 0, 0, 0, 0));
        add(text, "run", bridge.run(), bridge.errorPosition());
        text.append(now(bridge));
        bridge = scene.set();
        add(text, "load", bridge.load(), bridge.errorPosition());
        return text.append(now(bridge)).toString();
    }

    static String report(Scene scene) {
        StringBuilder text = new StringBuilder("report ");
        DecadeBridge bridge = scene.set();
        for (int i = 0; i < LONGEST && bridge.reportByte(i) >= 0; i++) {
            text.append((char) bridge.reportByte(i));
        }
        return text.append('\n').toString();
    }

    // The answers of all calls that change nothing, but for errorPosition and reportByte.
    static String now(DecadeBridge bridge) {
        StringBuilder text = new StringBuilder();
        for (int what = 0; what < 20; what++) {
            add(text, "size", what, bridge.size(what));
        }
        addParts(text, bridge);
        addReadings(text, bridge);
        addResults(text, bridge);
        add(text, "best, ideal", bridge.best(), bridge.ideal());
        add(text, "miss, better", bridge.miss(), bridge.better());
        add(text, "bestWith, bestArms", bridge.bestWith(1, 0), bridge.bestArms());
        add(text, "apparent", bridge.apparent(2), bridge.apparent(3));
        add(text, "foretold", bridge.foretold(300, 0), bridge.foretold(300, 1));
        add(text, "foretold", bridge.foretold(0, 2), bridge.foretold(3, 2));
        add(text, "steadyIn, cooledIn", bridge.steadyIn(), bridge.cooledIn());
        return text.toString();
    }

    private static void addParts(StringBuilder text, DecadeBridge bridge) {
        for (int kind = 0; kind < 5; kind++) {
            add(text, "ratio", bridge.ratio(kind, 1), bridge.ratio(kind, 2));
        }
        int decades = bridge.size(0);
        for (int d = 0; d < decades; d++) {
            add(text, "decade", bridge.decade(d, 1), bridge.decade(d, 2));
        }
        for (int i = 0; i < 3; i++) {
            add(text, "lead", i, bridge.lead(i));
        }
        for (int what = 0; what < 7; what++) {
            add(text, "part", bridge.part(false, what), bridge.part(true, what));
        }
        add(text, "coldOf", bridge.coldOf(0), bridge.coldOf(99));
    }

    private static void addReadings(StringBuilder text, DecadeBridge bridge) {
        add(text, "share", bridge.share(false), bridge.share(true));
        add(text, "deflection, current", bridge.deflection(), bridge.current());
        add(text, "power", bridge.power(false), bridge.power(true));
        add(text, "whyNot, energy", bridge.whyNot(), bridge.energy());
        for (int i = 0; i < 11; i++) {
            add(text, "reading", i, bridge.reading(i));
        }
        text.append("meanReading ").append(bridge.meanReading()).append(' ').append(bridge.spread()).append('\n');
    }

    private static void addResults(StringBuilder text, DecadeBridge bridge) {
        int results = bridge.size(17);
        for (int i = 0; i < results; i++) {
            for (int what = 0; what < 7; what++) {
                add(text, "result", i, bridge.result(i, what));
            }
            add(text, "valueOf", bridge.valueOf(i, false), bridge.valueOf(i, true));
        }
        int manners = bridge.size(18);
        for (int m = 0; m < manners; m++) {
            for (int what = 0; what < 6; what++) {
                add(text, "manner", m, bridge.manner(m, what));
            }
            text.append("meanOf ").append(bridge.meanOf(m)).append(' ').append(bridge.spreadOf(m)).append('\n');
        }
        add(text, "steadiest", results, bridge.steadiest());
    }

    private static void add(StringBuilder text, String what, long one, long other) {
        text.append(what).append(' ').append(one).append(' ').append(other).append('\n');
    }

    // The first line in which two texts differ, for a test that fails.
    static String difference(String got, String want) {
        String[] gotLines = got.split("\n", -1);
        String[] wantLines = want.split("\n", -1);
        for (int i = 0; i < Math.min(gotLines.length, wantLines.length); i++) {
            if (!gotLines[i].equals(wantLines[i])) {
                return "\"" + gotLines[i] + "\" for \"" + wantLines[i] + "\" in line " + i;
            }
        }
        return gotLines.length + " lines for " + wantLines.length;
    }
}
