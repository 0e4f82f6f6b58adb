// Where the sentences of "Operations" about undoing and of promises 46 to 50 have their boundaries.
public final class StatesEdgesTest {
    private static final int LEAST = Integer.MIN_VALUE;
    private static final int MOST = Integer.MAX_VALUE;
    // A NOISE as great as FULL: each balance ends by a null at once.
    private static final String AT_ONCE = ";supply 1 1000000;detector 5 5 0 0";

    public static void main(String[] args) {
        noReport();
        lines();
        settingsOfReports();
        manyLines();
        reportBytes();
        inPlaceOfTheOneBefore();
        eightUndone();
        undoneAfterOthers();
        undoneWholly();
        resultsBroughtBack();
        whatUndoingLeaves();
        slots();
        savedWholly();
        restoring();
        emptySlots();
        Check.end();
    }

    // ---- reports

    private static void noReport() {
        DecadeBridge bridge = new DecadeBridge();
        Check.due("byte 0 without a report", bridge.reportByte(0), -1);
        Check.due("a report without results", bridge.report(), 0);
        Check.due("its byte 0", bridge.reportByte(0), -1);
        DecadeBridge made = Bridges.made("box 2 0 0 0;unknown 1000" + AT_ONCE);
        made.balance(false);
        Check.due("a result is no report", made.reportByte(0), -1);
        Check.due("a report", made.report(), 16);
    }

    // Each part of a line: FIRST, SECOND, the leads, the value, the star.
    private static void lines() {
        for (int first = 0; first < 5; first++) {
            for (int second = 0; second < 5; second++) {
                DecadeBridge bridge = Bridges.made("box 3 7 0 0;unknown 1000;leads 2 3 4" + AT_ONCE);
                bridge.setArms(first, second);
                bridge.connect(2 + (first + second) % 2);
                bridge.balance(false);
                Check.dueText("a line", Bridges.reportOf(bridge), "10 " + first + "/" + second
                        + ((first + second) % 2 == 0 ? " ww " : " www ") + bridge.valueOf(0, true) + "*\n");
            }
        }
        value("box 2 0 0 0;unknown 1000;leads 1000 0 0", "10 0/0 ww 0*\n");
        value("box 2 0 0 0;unknown 1000;leads 999 0 0", "10 0/0 ww 1*\n");
        value("box 2 0 0 0;unknown 1000;leads 1001 0 0", "10 0/0 ww -1*\n");
        value("box 2 0 0 0;unknown 1000;leads 1009 0 0", "10 0/0 ww -9*\n");
        value("box 2 0 0 0;unknown 1000;leads 1010 0 0", "10 0/0 ww -10*\n");
        value("box 2 0 0 0;unknown 1000;leads 99999 99999 0", "10 0/0 ww -198998*\n");
        value("box 2 0 0 0;unknown 1000;leads 990 0 0", "10 0/0 ww 10*\n");
        value("box 2 0 0 0;unknown 1000;leads 991 0 0", "10 0/0 ww 9*\n");
        DecadeBridge great = Bridges.made("box 4 999 50000 50000 50000 50000;unknown 1000;ratio 0 -50000;ratio 4 50000"
                + AT_ONCE);
        great.setArms(0, 4);
        great.balance(false);
        Check.dueText("a value beyond an int", Bridges.reportOf(great), "1000 0/4 ww 116063673157*\n");
        DecadeBridge exact = Bridges.made("box 2 0 0 0;unknown 3742");
        Check.due("a balance without a null", exact.balance(false), 2);
        Check.dueText("has no star", Bridges.reportOf(exact), "37 0/0 ww 3700\n");
    }

    private static void value(String setup, String due) {
        DecadeBridge bridge = Bridges.made(setup + AT_ONCE);
        bridge.balance(false);
        Check.dueText("the report of " + setup, Bridges.reportOf(bridge), due);
    }

    // "its setting (with as many digits as there are decades)"
    private static void settingsOfReports() {
        int[] unknowns = {1000, 9000, 10000, 90000, 99000};
        String[] two = {"01", "09", "10", "90", "99"};
        String[] three = {"001", "009", "010", "090", "099"};
        String[] four = {"0001", "0009", "0010", "0090", "0099"};
        for (int i = 0; i < unknowns.length; i++) {
            setting("box 3 0 0 0;unknown " + unknowns[i], two[i]);
            setting("box 3 0 0 0 0;unknown " + unknowns[i], three[i]);
            setting("box 3 0 0 0 0 0;unknown " + unknowns[i], four[i]);
        }
        setting("box 0 0 0 0 0 0;unknown 1001", "1001");
        setting("box 0 0 0 0 0 0;unknown 1000", "1000");
        setting("box 0 0 0 0 0 0;unknown 9999", "9999");
    }

    private static void setting(String setup, String due) {
        DecadeBridge bridge = Bridges.made(setup);
        Check.due("a null", bridge.balance(false), 1);
        Check.dueText("the setting of " + setup, Bridges.reportOf(bridge).substring(0, due.length() + 1), due + " ");
    }

    // "for each result that is kept, by numbers": 1, 20 and 21 of them.
    private static void manyLines() {
        DecadeBridge bridge = Bridges.made("box 2 0 0 0;unknown 1000" + AT_ONCE);
        StringBuilder due = new StringBuilder();
        for (int i = 0; i < 21; i++) {
            bridge.setArms(i % 5, i / 5);
            bridge.balance(false);
            due.append("10 ").append(i % 5).append('/').append(i / 5).append(" ww ").append(bridge.valueOf(Math.min(i, 19), true))
                    .append("*\n");
            if (i == 20) {
                due.delete(0, due.indexOf("\n") + 1);
            }
            if (i == 0 || i == 1 || i > 18) {
                Check.due("the bytes of the report behind " + (i + 1), bridge.report(), due.length());
                text(bridge, due.toString());
            }
        }
    }

    // The bytes from 0 on, not more than are needed.
    private static void text(DecadeBridge bridge, String due) {
        for (int i = 0; i < due.length(); i += i < 40 ? 1 : 17) {
            Check.due("byte " + i, bridge.reportByte(i), due.charAt(i));
        }
        Check.due("the last byte", bridge.reportByte(due.length() - 1), 10);
        Check.due("the byte behind the last", bridge.reportByte(due.length()), -1);
    }

    // "NONE if there is none such"
    private static void reportBytes() {
        DecadeBridge bridge = Bridges.made("box 2 0 0 0;unknown 1000" + AT_ONCE);
        bridge.balance(false);
        String due = "10 0/0 ww 1000*\n";
        Check.due("the number of its bytes", bridge.report(), due.length());
        for (int i = 0; i < due.length(); i++) {
            Check.due("byte " + i, bridge.reportByte(i), due.charAt(i));
        }
        for (int bad : new int[] {LEAST, -1, due.length(), due.length() + 1, 999, 1000, 1001, MOST}) {
            Check.due("byte " + bad, bridge.reportByte(bad), -1);
        }
        Check.due("a slash is byte 47", bridge.reportByte(4), 47);
        Check.due("a star is byte 42", bridge.reportByte(14), 42);
    }

    // "Writes a report, in place of the one before"
    private static void inPlaceOfTheOneBefore() {
        DecadeBridge bridge = Bridges.made("box 2 0 0 0;unknown 1000" + AT_ONCE);
        bridge.balance(false);
        bridge.balance(false);
        Check.due("two lines", bridge.report(), 32);
        bridge.undo();
        Check.due("the report stays", bridge.reportByte(31), 10);
        Check.due("one line", bridge.report(), 16);
        Check.due("the second line has gone", bridge.reportByte(16), -1);
        bridge.undo();
        Check.due("none", bridge.report(), 0);
        Check.due("the first line has gone", bridge.reportByte(0), -1);
    }

    // ---- undo

    // "The 8 most recent operations can be undone, the most recent one first." "the number of operations that can still
    // be undone; NONE if there was nothing to undo"
    private static void eightUndone() {
        for (int operations = 0; operations <= 18; operations++) {
            DecadeBridge bridge = new DecadeBridge();
            for (int i = 1; i <= operations; i++) {
                bridge.setTo(i);
                Check.due("operations that can be undone", bridge.size(19), Math.min(8, i));
            }
            int left = Math.min(8, operations);
            for (int i = 1; i <= Math.min(8, operations); i++) {
                left--;
                Check.due("undo of " + operations, bridge.undo(), left);
                Check.due("the setting undone", bridge.size(14), operations - i);
                Check.due("operations that can still be undone", bridge.size(19), left);
            }
            Check.due("nothing to undo behind " + operations, bridge.undo(), -1);
            Check.due("nor then", bridge.undo(), -1);
            Check.due("the setting stays", bridge.size(14), Math.max(0, operations - 8));
        }
    }

    private static void undoneAfterOthers() {
        DecadeBridge bridge = new DecadeBridge();
        for (int i = 1; i <= 8; i++) {
            bridge.setTo(i);
        }
        for (int i = 0; i < 5; i++) {
            bridge.undo();
        }
        for (int i = 0; i < 6; i++) {
            bridge.setTo(50 + i);
        }
        Check.due("3 and 6, at most 8", bridge.size(19), 8);
        int[] due = {54, 53, 52, 51, 50, 3, 2, 1};
        for (int i = 0; i < 8; i++) {
            Check.due("undo", bridge.undo(), 7 - i);
            Check.due("the setting", bridge.size(14), due[i]);
        }
        Check.due("no more", bridge.undo(), -1);
    }

    private static final String RICH = "box 1 3 50 -60 70;unknown 4321;ratio 0 40;ratio 1 -30;warm unknown 300 20 5;"
            + "warm box -200 10 3;leads 11 12 13;supply 900 900000;detector 5000000 3000 20 -10;seed 77";

    private static DecadeBridge rich() {
        DecadeBridge bridge = Bridges.made(RICH);
        bridge.balance(false);
        Bridges.run(bridge, "volts 1;set 434;repeat 20(turn;read 1;);volts 900;arms 0 1;");
        bridge.turn();
        bridge.read();
        return bridge;
    }

    // "Undoing restores everything": state by state.
    private static void undoneWholly() {
        String[] steps = {"arms 3 2;", "volts 12;", "set 7;", "turn;", "wires 3;", "rest 99;", "read 20;", "balance;",
            "balance turned;", "volts 0;rest 1;set 999;", "volts 1;set 434;arms 0 0;read 20;", "repeat 20(read 3;balance;turn;);"};
        String before = Portrait.now(rich());
        Check.due("there is a result", rich().size(17), 1);
        Check.due("there are nulls", rich().size(16) > 0 ? 1 : 0, 1);
        for (String step : steps) {
            DecadeBridge bridge = rich();
            Bridges.run(bridge, step);
            Check.due("\"" + step + "\" changes something", Portrait.now(bridge).equals(before) ? 1 : 0, 0);
            DecadeBridge undone = rich();
            Bridges.run(undone, step);
            undone.undo();
            Check.dueSame("\"" + step + "\" undone", Portrait.now(undone), before);
            // The draws are as before as well.
            DecadeBridge twin = rich();
            undone.read();
            twin.read();
            Check.due("the next reading behind \"" + step + "\" undone", undone.reading(0), twin.reading(0));
            Check.due("the next ZERO", undone.size(8), twin.size(8));
        }
    }

    private static final String MANY = "box 1 0 0 0 0;unknown 3700;leads 0 100 0;ratio 1 777;supply 1000 1000000";

    // Results that differ in all that they tell, brought back in place of others.
    private static void resultsBroughtBack() {
        String first = results(filledFrom(Bridges.made(MANY), 0, 0));
        String later = results(filledFrom(Bridges.made(MANY), 0, 22));
        for (int restored = 0; restored < 2; restored++) {
            DecadeBridge bridge = filledFrom(Bridges.made(MANY), 0, 0);
            bridge.save(0);
            filledFrom(bridge, 1, 22);
            bridge.save(1);
            bridge.restore(1 - restored);
            bridge.restore(restored);
            Check.dueText("the results of slot " + restored, results(bridge), restored == 0 ? first : later);
        }
        // 20 results move up when the next one comes, and back when it is undone.
        DecadeBridge moved = another();
        Check.due("they moved up", results(moved).equals(later) ? 1 : 0, 0);
        DecadeBridge undone = another();
        undone.undo();
        Check.dueText("the results undone", results(undone), later);
    }

    private static DecadeBridge another() {
        DecadeBridge bridge = filledFrom(Bridges.made(MANY), 0, 22);
        Bridges.run(bridge, "arms 2 2;wires 2;balance turned;");
        return bridge;
    }

    private static DecadeBridge filledFrom(DecadeBridge bridge, int from, int to) {
        String[] arms = {"0 0", "0 1", "1 1", "1 2", "2 2", "2 3", "3 4"};
        for (int i = from; i <= to; i++) {
            Bridges.run(bridge, "arms " + arms[i % 7] + ";wires " + (2 + i / 3 % 2) + ";rest " + (i + 1)
                    + ";balance" + (i % 5 == 0 ? " turned;" : ";"));
            Check.due("a result comes", bridge.size(17), Math.min(20, i + 1));
        }
        return bridge;
    }

    private static String results(DecadeBridge bridge) {
        StringBuilder text = new StringBuilder();
        int results = bridge.size(17);
        for (int i = 0; i < results; i++) {
            for (int what = 0; what < 6; what++) {
                text.append(bridge.result(i, what)).append(' ');
            }
            text.append(bridge.valueOf(i, false)).append(' ').append(bridge.valueOf(i, true)).append(';');
        }
        return text.toString();
    }

    // "everything but the buffer, the error position, the report and the saved states"
    private static void whatUndoingLeaves() {
        DecadeBridge bridge = rich();
        bridge.save(0);
        bridge.rest(5);
        bridge.report();
        bridge.save(1);
        Bridges.run(bridge, "x");
        Bridges.feed(bridge, "turn;");
        for (int i = 0; i < 5; i++) {
            bridge.undo();
        }
        Check.due("all is undone", bridge.size(19) + bridge.size(9) + bridge.size(17), 0);
        Check.due("the buffer stays", bridge.feed(0, 0, 0, 0, 0), 5);
        Check.due("the error position stays", bridge.errorPosition(), 0);
        Check.due("the report stays", bridge.reportByte(0) > 0 ? 1 : 0, 1);
        Check.due("slot 0 stays", bridge.restore(0), rich().size(9));
        Check.due("slot 1 stays", bridge.restore(1), rich().size(9) + 5);
    }

    // ---- save, restore

    // "@param slot 0 or 1. @return the time. @throws IllegalArgumentException if slot is out of range"
    private static void slots() {
        DecadeBridge bridge = new DecadeBridge();
        for (int slot = 0; slot < 2; slot++) {
            Check.due("save " + slot + " at time 0", bridge.save(slot), 0);
        }
        bridge.rest(7);
        Check.due("save 0", bridge.save(0), 7);
        bridge.rest(4);
        Check.due("save 1", bridge.save(1), 11);
        bridge.rest(1);
        Check.due("restore 0", bridge.restore(0), 7);
        Check.due("restore 1", bridge.restore(1), 11);
        for (int bad : new int[] {LEAST, -1, 2, MOST}) {
            Check.dueArgument("save " + bad, () -> bridge.save(bad));
            Check.dueArgument("restore " + bad, () -> bridge.restore(bad));
        }
        Check.due("the time stays", bridge.size(9), 11);
        Check.due("slot 0 stays", bridge.restore(0), 7);
    }

    // "Saves everything that undoing restores, in place of what was saved in this slot."
    private static void savedWholly() {
        String saved = Portrait.now(rich()).replaceFirst("size 19 \\d+", "size 19 0");
        for (int slot = 0; slot < 2; slot++) {
            DecadeBridge bridge = rich();
            bridge.save(slot);
            Bridges.run(bridge, "volts 700;repeat 19(balance;turn;wires 3;);");
            bridge.restore(slot);
            Check.dueSame("all is back", Portrait.now(bridge), saved);
            DecadeBridge twin = rich();
            twin.read();
            bridge.read();
            Check.due("the draws too", bridge.reading(0), twin.reading(0));
            DecadeBridge other = rich();
            other.save(slot);
            other.rest(1);
            other.save(slot);
            other.rest(1);
            Check.due("the later one counts", other.restore(slot), rich().size(9) + 1);
            Check.due("the other slot is empty", other.restore(1 - slot), -1);
        }
        DecadeBridge bridge = rich();
        Check.due("saving is no operation", bridge.size(19), 4);
        bridge.save(0);
        Check.due("nor is it undone", bridge.size(19), 4);
    }

    // "which stays; nothing can be undone afterwards"
    private static void restoring() {
        DecadeBridge bridge = rich();
        bridge.save(1);
        for (int i = 0; i < 3; i++) {
            bridge.setTo(i);
            bridge.rest(3);
            Check.due("restore", bridge.restore(1), rich().size(9));
            Check.due("nothing can be undone", bridge.size(19), 0);
            Check.due("undo", bridge.undo(), -1);
        }
        bridge.setVolts(5);
        Check.due("what comes then can be undone", bridge.undo(), 0);
        Check.due("it is undone", bridge.size(3), 900);
        // What was undone or done behind it does not reach the saved state.
        bridge.setArms(4, 4);
        Bridges.run(bridge, "balance;read 3;");
        bridge.restore(1);
        Check.dueSame("the saved state is as it was", Portrait.now(bridge),
                Portrait.now(rich()).replaceFirst("size 19 \\d+", "size 19 0"));
        bridge.report();
        Bridges.run(bridge, "y");
        Bridges.feed(bridge, "turn;");
        bridge.restore(1);
        Check.due("the report stays", bridge.reportByte(0) > 0 ? 1 : 0, 1);
        Check.due("the error position stays", bridge.errorPosition(), 0);
        Check.due("the buffer stays", bridge.feed(0, 0, 0, 0, 0), 5);
    }

    // "NONE, and nothing changes, if nothing was saved there"
    private static void emptySlots() {
        DecadeBridge bridge = rich();
        String before = Portrait.now(bridge);
        Check.due("slot 0", bridge.restore(0), -1);
        Check.due("slot 1", bridge.restore(1), -1);
        Check.dueSame("nothing changes", Portrait.now(bridge), before);
        bridge.save(1);
        Check.due("slot 0 is empty still", bridge.restore(0), -1);
        Check.due("what can be undone stays", bridge.size(19), 4);
        Check.due("a load that fails", Bridges.load(bridge, "box 0 0 0 0;unknown 999"), -12);
        Check.due("leaves slot 1", bridge.restore(1), rich().size(9));
        Check.due("a load", Bridges.load(bridge, RICH), 3);
        Check.due("empties slot 1", bridge.restore(1), -1);
        Check.due("and slot 0", bridge.restore(0), -1);
    }
}
