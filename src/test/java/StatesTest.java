// Promises 46 to 50: report, reportByte, undo, save, restore.
public final class StatesTest {
    private static final String EVEN = "box 2 0 0 0;unknown 3700;leads 5 6 7;supply 100 1000000";

    public static void main(String[] args) {
        reports();
        bytesOfReports();
        undoing();
        undoneWholly();
        saving();
        restoring();
        Check.end();
    }

    private static void reports() {
        DecadeBridge bridge = Bridges.made("box 2 0 0 0 0;unknown 3700;supply 100 1000000");
        Check.due("an empty report", bridge.report(), 0);
        Check.due("its byte 0", bridge.reportByte(0), -1);
        bridge.balance(false);
        Check.dueText("a null", Bridges.reportOf(bridge), "037 0/0 ww 3700*\n");
        bridge.connect(3);
        bridge.setArms(1, 0);
        bridge.balance(false);
        bridge.setArms(0, 1);
        Check.due("a balance between two settings", bridge.balance(true), 2);
        Check.dueText("three results", Bridges.reportOf(bridge),
                "037 0/0 ww 3700*\n370 1/0 www 3700*\n003 0/1 www 3000\n");
        DecadeBridge two = Bridges.made("box 2 0 0 0;unknown 1000;leads 7000 0 0;supply 1 1000000;"
                + "detector 9999999 0 0 -99999");
        Check.due("a misled balance", two.balance(false), 2);
        Check.dueText("a negative value", Bridges.reportOf(two), "53 0/0 ww -1700\n");
        // 6000 against 5000 is a deflection of 45454, which the detector's zero takes away.
        DecadeBridge zero = Bridges.made("box 2 0 0 0;unknown 1000;leads 2000 3000 0;supply 1 1000000;"
                + "detector 9999999 0 0 -45454");
        zero.balance(false);
        Check.dueText("a value of 0", Bridges.reportOf(zero), "50 0/0 ww 0*\n");
        DecadeBridge four = Bridges.made("box 4 0 0 0 0 0;unknown 70000;supply 20000 1000000");
        four.setArms(4, 4);
        four.balance(true);
        Check.dueText("four decades", Bridges.reportOf(four), "0007 4/4 ww 70000*\n");
    }

    private static void bytesOfReports() {
        DecadeBridge bridge = Bridges.made(EVEN);
        bridge.balance(false);
        Check.due("there is no report yet", bridge.reportByte(0), -1);
        Check.due("the bytes of a report", bridge.report(), "37 0/0 ww 3689\n".length());
        String due = Bridges.reportOf(bridge);
        Check.due("the length of it", due.length(), 15);
        bridge.balance(true);
        Check.due("the latest report stays", bridge.reportByte(15), -1);
        bridge.undo();
        bridge.undo();
        Check.due("undo leaves it", bridge.reportByte(14), 10);
        Bridges.load(bridge, EVEN);
        Check.due("load leaves it", bridge.reportByte(0), '3');
        bridge.save(0);
        bridge.restore(0);
        Check.due("restore leaves it", bridge.reportByte(2), ' ');
        Check.due("byte -1", bridge.reportByte(-1), -1);
        Check.due("the byte behind the last", bridge.reportByte(15), -1);
        Check.due("the byte of the greatest int", bridge.reportByte(Integer.MAX_VALUE), -1);
        Check.due("the report now", bridge.report(), 0);
        Check.due("takes the place of the one before", bridge.reportByte(0), -1);
        for (int i = 0; i < 25; i++) {
            bridge.balance(false);
        }
        Check.due("a report of 20 results", bridge.report(), 20 * 15);
    }

    private static void undoing() {
        DecadeBridge bridge = new DecadeBridge();
        Check.due("nothing to undo", bridge.undo(), -1);
        for (int i = 1; i <= 12; i++) {
            bridge.setTo(i);
        }
        for (int i = 11; i >= 4; i--) {
            Check.due("undo", bridge.undo(), i - 4);
            Check.due("the setting undone", bridge.size(14), i);
        }
        Check.due("the 9th is not there", bridge.undo(), -1);
        Check.due("the setting stays", bridge.size(14), 4);
        bridge.turn();
        bridge.turn();
        bridge.undo();
        bridge.setTo(50);
        Check.due("two can be undone", bridge.size(19), 2);
        bridge.undo();
        Check.due("behind an undo", bridge.size(12) * 100 + bridge.size(14), 104);
        bridge.undo();
        Check.due("all undone", bridge.size(12) * 100 + bridge.size(14), 4);
        Check.due("nothing more", bridge.undo(), -1);
    }

    private static void undoneWholly() {
        DecadeBridge bridge = Bridges.made("box 2 0 0 0;unknown 3700;leads 5 6 7;supply 100 1000000;"
                + "warm unknown 3000 500 1;warm box 3000 500 1;detector 9999999 50 60 70");
        Bridges.run(bridge, "set 12;read 3;balance turned;");
        int[] sizes = new int[19];
        for (int what = 0; what < 19; what++) {
            sizes[what] = bridge.size(what);
        }
        long energy = bridge.energy();
        int hot = bridge.part(false, 5);
        int hotBox = bridge.part(true, 5);
        int reading = bridge.reading(0);
        bridge.read();
        int next = bridge.reading(0);
        bridge.undo();
        Bridges.run(bridge, "arms 1 0;volts 200;turn;wires 3;rest 10;balance;read 4;set 3;");
        bridge.undo();
        for (int what = 0; what < 19; what++) {
            Check.due("size " + what + " undone", bridge.size(what), sizes[what]);
        }
        Check.due("the energy undone", bridge.energy(), energy);
        Check.due("the unknown's temperature undone", bridge.part(false, 5), hot);
        Check.due("the box's temperature undone", bridge.part(true, 5), hotBox);
        Check.due("the readings undone", bridge.reading(0), reading);
        Check.due("the arms' share undone", bridge.share(true), 500000000);
        bridge.read();
        Check.due("the draws undone", bridge.reading(0), next);
        Bridges.run(bridge, "bad;");
        bridge.feed(0x61620000, 0, 0, 0, 0);
        bridge.undo();
        Check.due("the error position is not undone", bridge.errorPosition(), 0);
        Check.due("nor is the buffer", bridge.feed(0, 0, 0, 0, 0), 2);
    }

    private static void saving() {
        DecadeBridge bridge = Bridges.made(EVEN);
        bridge.rest(7);
        Check.due("save answers the time", bridge.save(0), 7);
        bridge.balance(false);
        bridge.rest(10);
        int time = bridge.size(9);
        Check.due("save in the other slot", bridge.save(1), time);
        Check.due("saving is no operation", bridge.size(19), 3);
        bridge.undo();
        bridge.undo();
        Check.due("undo leaves what was saved", bridge.restore(1), time);
        Check.due("the results are back", bridge.size(17), 1);
        Check.due("nothing can be undone", bridge.undo(), -1);
        Check.due("restore the first slot", bridge.restore(0), 7);
        Check.due("no result then", bridge.size(17), 0);
        bridge.rest(1);
        Check.due("save in place of the one before", bridge.save(0), 8);
        bridge.rest(1);
        Check.due("restore it", bridge.restore(0), 8);
        Check.dueArgument("save -1", () -> bridge.save(-1));
        Check.dueArgument("save 2", () -> bridge.save(2));
    }

    private static void restoring() {
        DecadeBridge bridge = Bridges.made(EVEN);
        bridge.setTo(9);
        Check.due("nothing was saved there", bridge.restore(0), -1);
        Check.due("nothing changes", bridge.size(14), 9);
        Check.due("what can be undone stays", bridge.size(19), 1);
        bridge.save(1);
        Check.due("nor in slot 0", bridge.restore(0), -1);
        Check.dueArgument("restore -1", () -> bridge.restore(-1));
        Check.dueArgument("restore 2", () -> bridge.restore(2));
        bridge.rest(3);
        Check.due("restore", bridge.restore(1), 0);
        bridge.rest(4);
        Check.due("what was saved stays", bridge.restore(1), 0);
        Check.due("the setting is back", bridge.size(14), 9);
        Check.due("nothing can be undone", bridge.size(19), 0);
        bridge.setTo(8);
        Check.due("what comes then can", bridge.undo(), 0);
        Check.due("the setting undone", bridge.size(14), 9);
        bridge.rest(2);
        Check.due("a wrong load", Bridges.load(bridge, "box"), -11);
        Check.due("leaves what was saved", bridge.restore(1), 0);
        Check.due("a good one", Bridges.load(bridge, EVEN), 2);
        Check.due("discards it", bridge.restore(1), -1);
    }
}
