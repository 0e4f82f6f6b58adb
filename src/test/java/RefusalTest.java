import java.util.ArrayList;
import java.util.List;

// "any other call changes nothing, except that run empties the buffer" (Operations), and each sentence of a
// promise that says what a refused call leaves: every call that can be refused, in several states.
public final class RefusalTest {
    private static final int LEAST = Integer.MIN_VALUE;
    private static final int MOST = Integer.MAX_VALUE;

    // A refused call: what it is told as, and what it answers.
    private interface Call {
        long on(DecadeBridge bridge);
    }

    private enum Kind { INDEX, ARGUMENT, CODE }

    private record Refused(String name, Call call, Kind kind, long code) {
    }

    private static final List<Refused> REFUSED = new ArrayList<>();

    public static void main(String[] args) {
        questions();
        searches();
        operations();
        states();
        Check.due("there are two results", used().size(17), 2);
        Check.due("there are nulls", used().size(16) > 0 ? 1 : 0, 1);
        Check.due("8 operations can be undone", used().size(19), 8);
        check("a new bridge", DecadeBridge::new, REFUSED);
        check("a bridge that was used", RefusalTest::used, REFUSED);
        codes();
        buffers();
        Check.end();
    }

    private static void index(String name, Call call) {
        REFUSED.add(new Refused(name, call, Kind.INDEX, 0));
    }

    private static void argument(String name, Call call) {
        REFUSED.add(new Refused(name, call, Kind.ARGUMENT, 0));
    }

    // ---- the calls that throw in every state (of a box of 2 decades, with at most 3 results)

    private static void questions() {
        for (int bad : new int[] {LEAST, -1, 20, MOST}) {
            argument("size " + bad, b -> b.size(bad));
        }
        for (int bad : new int[] {LEAST, -1, 5, MOST}) {
            index("ratio of kind " + bad, b -> b.ratio(bad, 0));
            index("ratio of kind " + bad + ", what out of range too", b -> b.ratio(bad, 3));
        }
        for (int bad : new int[] {LEAST, -1, 3, MOST}) {
            argument("ratio what " + bad, b -> b.ratio(4, bad));
            argument("decade what " + bad, b -> b.decade(1, bad));
            index("lead " + bad, b -> b.lead(bad));
        }
        for (int bad : new int[] {LEAST, -1, 2, MOST}) {
            index("decade " + bad + " of 2", b -> b.decade(bad, 2));
            index("decade " + bad + " of 2, what out of range too", b -> b.decade(bad, -1));
        }
        for (int bad : new int[] {LEAST, -1, 7, MOST}) {
            argument("part of the unknown " + bad, b -> b.part(false, bad));
            argument("part of the box " + bad, b -> b.part(true, bad));
        }
        for (int bad : new int[] {LEAST, -1, 100, MOST}) {
            argument("coldOf " + bad, b -> b.coldOf(bad));
        }
        for (int bad : new int[] {LEAST, -1, 3, MOST}) {
            index("result " + bad, b -> b.result(bad, 0));
            index("result " + bad + ", what out of range too", b -> b.result(bad, 7));
            index("valueOf " + bad, b -> b.valueOf(bad, true));
            index("manner " + bad, b -> b.manner(bad, 0));
            index("manner " + bad + ", what out of range too", b -> b.manner(bad, 6));
            index("meanOf " + bad, b -> (long) b.meanOf(bad));
            index("spreadOf " + bad, b -> b.spreadOf(bad));
        }
    }

    private static void searches() {
        for (int bad : new int[] {LEAST, -1, 5, MOST}) {
            index("bestWith first " + bad, b -> b.bestWith(bad, 0));
            index("bestWith second " + bad, b -> b.bestWith(0, bad));
        }
        for (int bad : new int[] {LEAST, 1, 4, MOST}) {
            argument("apparent " + bad, b -> b.apparent(bad));
        }
        for (int bad : new int[] {LEAST, -1, 301, MOST}) {
            argument("foretold ticks " + bad, b -> b.foretold(bad, 0));
        }
        for (int bad : new int[] {LEAST, -1, 3, MOST}) {
            argument("foretold what " + bad, b -> b.foretold(0, bad));
        }
    }

    private static void operations() {
        for (int bad : new int[] {LEAST, -1, 5, MOST}) {
            index("setArms first " + bad, b -> b.setArms(bad, 1));
            index("setArms second " + bad, b -> b.setArms(1, bad));
        }
        for (int bad : new int[] {LEAST, -1, 20001, MOST}) {
            argument("setVolts " + bad, b -> b.setVolts(bad));
        }
        argument("setTo -1", b -> b.setTo(-1));
        argument("setTo the least int", b -> b.setTo(LEAST));
        REFUSED.add(new Refused("setTo 100 of 2 decades", b -> b.setTo(100), Kind.CODE, -2));
        REFUSED.add(new Refused("setTo the greatest int", b -> b.setTo(MOST), Kind.CODE, -2));
        for (int bad : new int[] {LEAST, -1, 2, MOST}) {
            index("setDigit of decade " + bad, b -> b.setDigit(bad, 1));
            index("setDigit of decade " + bad + ", digit out of range too", b -> b.setDigit(bad, 10));
        }
        for (int bad : new int[] {LEAST, -1, 10, MOST}) {
            argument("setDigit to " + bad, b -> b.setDigit(0, bad));
        }
        for (int bad : new int[] {LEAST, 1, 4, MOST}) {
            argument("connect " + bad, b -> b.connect(bad));
        }
        for (int bad : new int[] {LEAST, 0, 100, MOST}) {
            argument("rest " + bad, b -> b.rest(bad));
        }
    }

    private static void states() {
        for (int bad : new int[] {LEAST, -1, 2, MOST}) {
            argument("save " + bad, b -> b.save(bad));
            argument("restore " + bad, b -> b.restore(bad));
        }
        REFUSED.add(new Refused("restore of a slot without a saved state", b -> b.restore(1), Kind.CODE, -1));
        for (int bad : new int[] {LEAST, -1, 400, MOST}) {
            REFUSED.add(new Refused("reportByte " + bad, b -> b.reportByte(bad), Kind.CODE, -1));
        }
        for (int bad : new int[] {LEAST, -1, 10, MOST}) {
            REFUSED.add(new Refused("reading " + bad, b -> b.reading(bad), Kind.CODE, DecadeBridge.HIDDEN));
        }
    }

    // ---- the states

    // With two results, readings, something to undo, a saved state, a report, a text's error and half a text.
    private static DecadeBridge used() {
        DecadeBridge bridge = new DecadeBridge();
        Bridges.load(bridge, "box 2 3 50 -60;unknown 4321;ratio 0 40;ratio 1 -30;warm unknown 300 20 5;"
                + "warm box -200 10 3;leads 11 12 13;supply 900 900000;detector 5000000 3000 20 -10;seed 77");
        bridge.balance(false);
        Bridges.run(bridge, "volts 1;set 43;arms 0 0;repeat 20(turn;read 1;);");
        Bridges.run(bridge, "volts 900;");
        bridge.setArms(0, 1);
        bridge.rest(3);
        bridge.save(0);
        bridge.connect(3);
        bridge.turn();
        bridge.balance(true);
        bridge.read();
        bridge.report();
        bridge.setDigit(1, 8);
        bridge.setVolts(700);
        Bridges.run(bridge, "turn;bad;");
        Bridges.feed(bridge, "turn;rest 2;");
        return bridge;
    }

    private static void check(String state, Portrait.Scene scene, List<Refused> calls) {
        String before = Portrait.whole(scene);
        for (Refused refused : calls) {
            String name = refused.name + " in " + state;
            answers(name, refused, scene.set());
            Check.dueSame(name + " leaves all as it was", Portrait.whole(() -> behind(scene, refused)), before);
        }
    }

    private static void answers(String name, Refused refused, DecadeBridge bridge) {
        switch (refused.kind) {
            case INDEX -> Check.dueIndex(name, () -> refused.call.on(bridge));
            case ARGUMENT -> Check.dueArgument(name, () -> refused.call.on(bridge));
            default -> Check.due(name, refused.call.on(bridge), refused.code);
        }
    }

    private static DecadeBridge behind(Portrait.Scene scene, Refused refused) {
        DecadeBridge bridge = scene.set();
        try {
            refused.call.on(bridge);
        } catch (IndexOutOfBoundsException | IllegalArgumentException thrown) {
            return bridge;
        }
        return bridge;
    }

    // ---- error codes that hang on the state

    private static void codes() {
        Refused noVolts = new Refused("read with VOLTS of 0", b -> b.read(), Kind.CODE, -2);
        Refused noBalance = new Refused("balance with VOLTS of 0", b -> b.balance(false), Kind.CODE, -2);
        Refused noTurned = new Refused("turned balance with VOLTS of 0", b -> b.balance(true), Kind.CODE, -2);
        check("a bridge without volts", () -> {
            DecadeBridge bridge = used();
            bridge.setVolts(0);
            return bridge;
        }, List.of(noVolts, noBalance, noTurned));
        Refused above = new Refused("read with a current above MOST", b -> b.read(), Kind.CODE, -3);
        check("a bridge with a current above MOST", () -> {
            DecadeBridge bridge = used();
            bridge.setVolts(20000);
            return bridge;
        }, List.of(above));
        Refused nothing = new Refused("undo of nothing", b -> b.undo(), Kind.CODE, -1);
        check("a new bridge", DecadeBridge::new, List.of(nothing));
        check("a bridge that was restored", () -> {
            DecadeBridge bridge = used();
            bridge.restore(0);
            return bridge;
        }, List.of(nothing));
    }

    // ---- texts: an error changes the buffer and the error position only

    private static void buffers() {
        String state = Portrait.state(RefusalTest::used);
        String report = Portrait.report(RefusalTest::used);
        texts(state, report, "box 0 0 0 0;unknown 1000;leads 1 2 3;seed 5;bad", true, 1);
        texts(state, report, "box 0 0 0 0;unknown 1000;warm box 1 2 3;warm unknown 1 2 3;ratio 1 1;supply 1 0", true, 2);
        texts(state, report, "box 0 0 0 0 0 0;unknown 1000;detector 1 1 1 1;supply 5 5;box", true, 3);
        texts(state, report, "box 0 0 0 0;supply 5 5", true, 4);
        texts(state, report, "turn;set 55;rest 5;read 3;balance;volts 0;arms 2 2;wires 2;bad;", false, 1);
        texts(state, report, "turn;set 55;rest 5;volts 20001;", false, 2);
        texts(state, report, "rest 9;repeat 1(repeat 1(repeat 1(turn;);););", false, 3);
        texts(state, report, "rest 1;".repeat(31), false, 4);
        Refused tooMany = new Refused("feed of 2 bytes to 599", b -> b.feed(0x41420000, 0, 0, 0, 0), Kind.CODE, -1);
        Refused most = new Refused("feed of 20 bytes to 599", b -> b.feed(-1, -1, -1, -1, -1), Kind.CODE, -1);
        check("a bridge with a buffer of 599", RefusalTest::nearlyFull, List.of(tooMany, most));
        Refused one = new Refused("feed of 1 byte to 600", b -> b.feed(0, 0, 0, 0, 1), Kind.CODE, -1);
        check("a bridge with a full buffer", () -> {
            DecadeBridge bridge = nearlyFull();
            bridge.feed(' ', 0, 0, 0, 0);
            return bridge;
        }, List.of(one, tooMany, most));
    }

    private static void texts(String state, String report, String text, boolean setup, int code) {
        Portrait.Scene scene = () -> {
            DecadeBridge bridge = used();
            bridge.load();
            Bridges.feed(bridge, text);
            Check.due("\"" + text + "\"", setup ? bridge.load() : bridge.run(), -10 - code);
            return bridge;
        };
        Check.dueSame("\"" + text + "\" leaves the state", Portrait.state(scene), state);
        Check.dueSame("\"" + text + "\" leaves the report", Portrait.report(scene), report);
        Check.due("\"" + text + "\" leaves an empty buffer", scene.set().feed(0, 0, 0, 0, 0), 0);
    }

    // 599 bytes that are a good protocol.
    private static DecadeBridge nearlyFull() {
        DecadeBridge bridge = new DecadeBridge();
        bridge.load();
        Check.due("a buffer of 599", Bridges.feed(bridge, "turn;".repeat(30) + " ".repeat(449)), 599);
        return bridge;
    }
}
