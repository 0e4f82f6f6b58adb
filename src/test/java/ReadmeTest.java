// The measurement that README.md shows, with the answers that it tells.
public final class ReadmeTest {
    public static void main(String[] args) {
        DecadeBridge bridge = new DecadeBridge();
        feed(bridge, "box 2 5 100 -200 0;unknown 4700;leads 120 80 90;supply 2000 500000;detector 9999999 20 3 15");
        Check.due("load", bridge.load(), 3);
        Check.due("setArms", bridge.setArms(1, 0), 0);
        Check.due("connect", bridge.connect(3), 2);
        Check.due("balance", bridge.balance(false), 2);
        Check.due("the setting", bridge.size(14), 481);
        Check.due("the value told", bridge.valueOf(0, false), 4810);
        // (4 * 10000 * 1.0001 + 8 * 1000 * 0.9998 + 100 + 5 + 80) / 10 - 120
        Check.due("the corrected value", bridge.valueOf(0, true), 4698);
        Check.due("best", bridge.best(), 481);
        feed(bridge, "arms 0 0;repeat 2(balance turned;rest 5;);unless null(turn;read 3;);");
        Check.due("run", bridge.run(), 7);
        Check.dueDouble("meanOf", bridge.meanOf(1), 4664.0);
        Check.due("report", bridge.report(), 51);
        Check.dueText("the report", Bridges.reportOf(bridge), "481 1/0 www 4698\n047 0/0 www 4664\n047 0/0 www 4664\n");
        Check.due("undo", bridge.undo(), 3);
        refused(bridge);
        Check.end();
    }

    private static void refused(DecadeBridge bridge) {
        String before = Portrait.now(bridge);
        Check.due("setTo beyond the box", bridge.setTo(1000), -2);
        Check.dueIndex("setDigit of no decade", () -> bridge.setDigit(3, 10));
        Check.dueArgument("setDigit to no digit", () -> bridge.setDigit(2, 10));
        feed(bridge, "volts 20001;");
        Check.due("run with an error", bridge.run(), -12);
        Check.due("its position", bridge.errorPosition(), 6);
        Check.due("restore of an empty slot", bridge.restore(0), DecadeBridge.NONE);
        feed(bridge, "turn;");
        Check.due("a text without an error", bridge.run(), 1);
        Check.due("no position", bridge.errorPosition(), DecadeBridge.NONE);
        Check.due("undo of the turn", bridge.undo(), 3);
        Check.dueSame("behind refused calls", Portrait.now(bridge), before);
    }

    // As README.md tells it.
    private static void feed(DecadeBridge bridge, String text) {
        for (int from = 0; from < text.length(); from += 20) {
            int[] words = new int[5];
            for (int i = 0; i < 20; i++) {
                int one = from + i < text.length() ? text.charAt(from + i) : 0;
                words[i / 4] = words[i / 4] << 8 | one;
            }
            bridge.feed(words[0], words[1], words[2], words[3], words[4]);
        }
    }
}
