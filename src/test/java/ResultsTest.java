// Promises 21 to 26: result, valueOf, manner, meanOf, spreadOf, steadiest.
public final class ResultsTest {
    public static void main(String[] args) {
        withoutAny();
        values();
        endings();
        manners();
        shiftsOut();
        mixedEndings();
        means();
        steadiest();
        Check.end();
    }

    private static void withoutAny() {
        DecadeBridge bridge = new DecadeBridge();
        Check.dueIndex("result 0 of none", () -> bridge.result(0, 0));
        Check.dueIndex("result 0 of none, what 9", () -> bridge.result(0, 9));
        Check.dueIndex("valueOf 0 of none", () -> bridge.valueOf(0, true));
        Check.dueIndex("manner 0 of none", () -> bridge.manner(0, 0));
        Check.dueIndex("manner 0 of none, what -1", () -> bridge.manner(0, -1));
        Check.dueIndex("meanOf 0 of none", () -> bridge.meanOf(0));
        Check.dueIndex("spreadOf 0 of none", () -> bridge.spreadOf(0));
        Check.due("steadiest of none", bridge.steadiest(), -1);
    }

    private static void due(DecadeBridge bridge, int i, int... due) {
        for (int what = 0; what < due.length; what++) {
            Check.due("result " + i + " " + what, bridge.result(i, what), due[what]);
        }
    }

    private static void values() {
        DecadeBridge bridge = Bridges.made("box 2 4 1000 2000 3000;unknown 5678;leads 30 40 50;"
                + "ratio 0 2000;ratio 1 -1000;supply 100 1000000");
        bridge.setArms(1, 0);
        Check.due("a balance behind the last decade", bridge.balance(false), 2);
        int setting = bridge.size(14);
        due(bridge, 0, 1, 0, 2, setting, bridge.size(9), 2, 0);
        // 5678 + 70 are balanced by a box of 9990 / 1002 times that.
        long balanced = 5748L * 9990 / 1002;
        Check.due("not above the balance", bridge.coldOf(setting) <= balanced ? 1 : 0, 1);
        Check.due("the next one is", bridge.coldOf(setting + 1) >= balanced ? 1 : 0, 1);
        Check.due("told", bridge.valueOf(0, false), setting * 100L * 1000 / 10000);
        Check.due("corrected with two leads", bridge.valueOf(0, true), bridge.coldOf(setting) * 1002L / 9990 - 30 - 40);
        bridge.connect(3);
        Check.due("a balance with three leads", bridge.balance(true), 2);
        int second = bridge.size(14);
        due(bridge, 1, 1, 0, 3, second, bridge.size(9), 2, 1);
        Check.due("corrected with three leads", bridge.valueOf(1, true),
                (bridge.coldOf(second) + 40L) * 1002 / 9990 - 30);
        due(bridge, 0, 1, 0, 2, setting, bridge.result(0, 4), 2, 0);
        Check.dueIndex("result -1", () -> bridge.result(-1, 0));
        Check.dueIndex("result 2 of 2", () -> bridge.result(2, 7));
        Check.dueArgument("result what -1", () -> bridge.result(0, -1));
        Check.dueArgument("result what 7", () -> bridge.result(1, 7));
        Check.dueIndex("valueOf -1", () -> bridge.valueOf(-1, false));
        Check.dueIndex("valueOf 2 of 2", () -> bridge.valueOf(2, false));
        DecadeBridge great = Bridges.made("box 4 999 0 0 0 0;unknown 50000000;supply 20000 1000000;ratio 0 -50000");
        great.setArms(0, 4);
        Check.due("all too great but the last", great.balance(false), 4);
        DecadeBridge wide = Bridges.made("box 4 999 0 0 0 0;unknown 100000000;supply 20000 1000000");
        Check.due("all digits 9", wide.balance(false), 3);
        Check.due("no result of them", great.size(17) + wide.size(17), 0);
        DecadeBridge below = Bridges.made("box 0 0 0 0;unknown 1000;leads 99999 99999 0;ratio 4 0;supply 20000 1000000");
        below.setArms(4, 4);
        below.connect(3);
        Check.due("lead 1 is far above the setting", below.balance(false), 3);
    }

    private static void endings() {
        DecadeBridge bridge = Bridges.made("box 2 0 0 0;unknown 3700;supply 100 1000000");
        Check.due("ended by a null", bridge.balance(false), 1);
        // 10, 20, 30, 40 and then 31 to 37: 11 readings.
        due(bridge, 0, 0, 0, 2, 37, 11, 1, 0);
        Check.due("told", bridge.valueOf(0, false), 3700);
        Check.due("corrected", bridge.valueOf(0, true), 3700);
        DecadeBridge negative = Bridges.made("box 0 0 0 0 0;unknown 1000;leads 90 0 0;detector 9999999 0 0 -99999;"
                + "supply 1 1000000");
        negative.setArms(0, 0);
        Check.due("a zero of the detector misleads", negative.balance(false), 2);
        Check.due("below the balance", negative.result(0, 3) < 1000 ? 1 : 0, 1);
    }

    private static void manners() {
        DecadeBridge bridge = Bridges.made("box 2 0 0 0;unknown 3750;leads 10 20 30;supply 100 1000000");
        bridge.balance(false);
        bridge.connect(3);
        bridge.balance(false);
        bridge.setArms(1, 1);
        bridge.balance(false);
        bridge.connect(2);
        bridge.balance(true);
        bridge.setArms(0, 0);
        bridge.balance(true);
        bridge.balance(false);
        Check.due("results", bridge.size(17), 6);
        Check.due("manners", bridge.size(18), 4);
        int[] mannersOfResults = {0, 1, 2, 3, 0, 0};
        for (int i = 0; i < 6; i++) {
            Check.due("the manner of result " + i, bridge.result(i, 6), mannersOfResults[i]);
        }
        int[][] due = {{0, 0, 2, 3, 0, 5}, {0, 0, 3, 1, 1, 1}, {1, 1, 3, 1, 2, 2}, {1, 1, 2, 1, 3, 3}};
        for (int m = 0; m < 4; m++) {
            for (int what = 0; what < 6; what++) {
                Check.due("manner " + m + " " + what, bridge.manner(m, what), due[m][what]);
            }
        }
        Check.dueIndex("manner -1", () -> bridge.manner(-1, 0));
        Check.dueIndex("manner 4 of 4", () -> bridge.manner(4, 9));
        Check.dueArgument("manner what -1", () -> bridge.manner(0, -1));
        Check.dueArgument("manner what 6", () -> bridge.manner(3, 6));
        Check.dueIndex("meanOf -1", () -> bridge.meanOf(-1));
        Check.dueIndex("meanOf 4 of 4", () -> bridge.meanOf(4));
        Check.dueIndex("spreadOf -1", () -> bridge.spreadOf(-1));
        Check.dueIndex("spreadOf 4 of 4", () -> bridge.spreadOf(4));
        bridge.undo();
        Check.due("the results are undone", bridge.size(17), 5);
        Check.due("the latest of manner 0 then", bridge.manner(0, 5), 4);
    }

    private static void shiftsOut() {
        DecadeBridge bridge = Bridges.made("box 2 0 0 0;unknown 3700;supply 100 1000000");
        bridge.setArms(1, 1);
        bridge.balance(false);
        bridge.setArms(0, 0);
        for (int i = 0; i < 18; i++) {
            bridge.balance(false);
        }
        bridge.setArms(1, 1);
        bridge.balance(false);
        Check.due("20 results", bridge.size(17), 20);
        Check.due("manner 0 is that of the earliest result", bridge.manner(0, 0), 1);
        Check.due("its results", bridge.manner(0, 3), 2);
        int time = bridge.result(1, 4);
        bridge.balance(false);
        Check.due("still 20 results", bridge.size(17), 20);
        Check.due("the earliest one has gone", bridge.result(0, 4), time);
        Check.due("manner 0 is another then", bridge.manner(0, 0), 0);
        Check.due("manner 1 is the former one", bridge.manner(1, 0), 1);
        Check.due("its earliest result", bridge.manner(1, 4), 18);
        Check.due("its latest result", bridge.manner(1, 5), 19);
        Check.due("manners", bridge.size(18), 2);
        Check.dueIndex("result 20", () -> bridge.result(20, 0));
        bridge.undo();
        Check.due("undone, the earliest one is back", bridge.manner(0, 4), 0);
        Check.due("and is of kind 1", bridge.manner(0, 0), 1);
    }

    // Results that ended otherwise keep how they did when they move up, and when they come back.
    private static void mixedEndings() {
        DecadeBridge bridge = Bridges.made("box 2 0 0 0;unknown 3700;leads 0 100 0;supply 100 1000000");
        for (int i = 0; i < 23; i++) {
            bridge.connect(i % 3 == 0 ? 2 : 3);
            bridge.setArms(0, i % 2);
            bridge.balance(false);
        }
        bridge.save(0);
        int[] ended = new int[20];
        int nulls = 0;
        for (int i = 0; i < 20; i++) {
            ended[i] = bridge.result(i, 5);
            nulls += ended[i] == 1 ? 1 : 0;
        }
        bridge.setArms(1, 1);
        for (int i = 0; i < 5; i++) {
            bridge.connect(2 + i % 2);
            bridge.balance(i % 2 == 0);
            int last = bridge.result(19, 5);
            Check.due("how the results ended moves up", bridge.result(14, 5), i + 15 < 20 ? ended[i + 15] : last);
        }
        bridge.restore(0);
        for (int i = 0; i < 20; i++) {
            Check.due("how result " + i + " ended", bridge.result(i, 5), ended[i]);
        }
        Check.due("some ended by a null", nulls > 0 && nulls < 20 ? 1 : 0, 1);
    }

    // A detector with noise gives results of several values.
    private static void means() {
        DecadeBridge bridge = Bridges.made("box 1 0 0 0 0;unknown 4321;supply 100 1000000;detector 9999999 0 999 0;seed 5");
        double[] sums = new double[2];
        long[] least = {Long.MAX_VALUE, Long.MAX_VALUE};
        long[] greatest = {Long.MIN_VALUE, Long.MIN_VALUE};
        for (int i = 0; i < 14; i++) {
            bridge.connect(2 + i % 2);
            Check.due("a result comes", bridge.balance(i % 3 == 0) <= 2 ? 1 : 0, 1);
            long value = bridge.valueOf(i, true);
            sums[i % 2] += value;
            least[i % 2] = Math.min(least[i % 2], value);
            greatest[i % 2] = Math.max(greatest[i % 2], value);
        }
        for (int m = 0; m < 2; m++) {
            Check.dueDouble("meanOf " + m, bridge.meanOf(m), sums[m] / 7.0);
            Check.due("spreadOf " + m, bridge.spreadOf(m), greatest[m] - least[m]);
            Check.due("the results differ", greatest[m] > least[m] ? 1 : 0, 1);
        }
        Check.due("steadiest", bridge.steadiest(), bridge.spreadOf(1) < bridge.spreadOf(0) ? 1 : 0);
        DecadeBridge one = Bridges.made("box 2 0 0 0;unknown 3700;supply 100 1000000");
        one.balance(false);
        Check.dueDouble("meanOf one result", one.meanOf(0), 3700.0);
        Check.due("spreadOf one result", one.spreadOf(0), 0);
        Check.due("one result is not steady", one.steadiest(), -1);
        one.balance(false);
        Check.due("two are", one.steadiest(), 0);
    }

    private static void steadiest() {
        DecadeBridge bridge = Bridges.made("box 2 0 0 0;unknown 3700;supply 100 1000000");
        bridge.setArms(1, 1);
        bridge.balance(false);
        for (int kind = 2; kind < 4; kind++) {
            bridge.setArms(kind, kind);
            bridge.balance(false);
            bridge.balance(false);
        }
        Check.due("of several the lowest one that has two results", bridge.steadiest(), 1);
        bridge.setArms(1, 1);
        bridge.balance(false);
        Check.due("a lower one then", bridge.steadiest(), 0);
        // The unknown warms up: the first manner's results come to differ, the second one's do not.
        DecadeBridge warm = Bridges.made("box 0 0 0 0 0 0;unknown 3700;supply 1000 1000000;warm unknown 4000 5 0");
        warm.balance(false);
        warm.balance(false);
        Check.due("the spread of results that differ", warm.spreadOf(0) > 0 ? 1 : 0, 1);
        warm.setVolts(1);
        warm.connect(3);
        warm.balance(false);
        warm.balance(false);
        Check.due("the least spread", warm.spreadOf(1) < warm.spreadOf(0) ? 1 : 0, 1);
        Check.due("is steadiest", warm.steadiest(), 1);
    }
}
