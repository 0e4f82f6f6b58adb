// Promises 6 to 11: size, ratio, decade, lead, part, coldOf.
public final class PartsTest {
    public static void main(String[] args) {
        sizes();
        ratios();
        decades();
        leads();
        partsOfBoth();
        coldValues();
        Check.end();
    }

    private static void sizes() {
        DecadeBridge bridge = Bridges.made("box 3 21 1 2 3 4;unknown 1500;supply 2000 900000;detector 5000 40 0 -7");
        int[] due = {4, 1000, 21, 2000, 900000, 5000, 40, 0, -7, 0, 0, 0, 0, 2, 0, 0, 0, 0, 0, 0};
        for (int what = 0; what < due.length; what++) {
            Check.due("size " + what, bridge.size(what), due[what]);
        }
        Check.dueArgument("size -1", () -> bridge.size(-1));
        Check.dueArgument("size 20", () -> bridge.size(20));
        Check.dueArgument("size of the least int", () -> bridge.size(Integer.MIN_VALUE));
        bridge.setArms(2, 4);
        bridge.setTo(1234);
        bridge.turn();
        bridge.connect(3);
        bridge.rest(6);
        bridge.setVolts(10);
        int[] then = {4, 1000, 21, 10, 900000, 5000, 40, 0, -7, 6, 2, 4, 1, 3, 1234, 0, 0, 0, 0, 6};
        for (int what = 0; what < then.length; what++) {
            Check.due("size " + what + " then", bridge.size(what), then[what]);
        }
        DecadeBridge even = Bridges.made("box 2 0 0 0;unknown 1000;supply 100 1000000;detector 9999999 3 0 0;seed 4");
        even.setTo(10);
        even.read();
        even.read();
        even.setTo(99);
        even.read();
        Check.due("readings made", even.size(15), 3);
        Check.due("nulls among them", even.size(16), 2);
        even.balance(false);
        even.connect(3);
        even.balance(true);
        Check.due("results that are kept", even.size(17), 2);
        Check.due("manners", even.size(18), 2);
        Check.due("operations that can be undone", even.size(19), 8);
        even.turn();
        Check.due("at most 8 of them", even.size(19), 8);
    }

    private static void ratios() {
        DecadeBridge bridge = Bridges.made("box 0 0 0 0;unknown 1000;ratio 0 1999;ratio 1 -1999;ratio 4 -50000;ratio 3 -1");
        int[][] due = {{1000, 1999, 1001}, {10000, -1999, 9981}, {100000, 0, 100000}, {1000000, -1, 999999},
            {10000000, -50000, 9500000}};
        for (int kind = 0; kind < 5; kind++) {
            for (int what = 0; what < 3; what++) {
                Check.due("ratio " + kind + " " + what, bridge.ratio(kind, what), due[kind][what]);
            }
        }
        Check.dueIndex("ratio of kind -1", () -> bridge.ratio(-1, 0));
        Check.dueIndex("ratio of kind 5, what 9", () -> bridge.ratio(5, 9));
        Check.dueArgument("ratio what -1", () -> bridge.ratio(0, -1));
        Check.dueArgument("ratio what 3", () -> bridge.ratio(4, 3));
    }

    private static void decades() {
        DecadeBridge bridge = Bridges.made("box 1 0 7 -8 9;unknown 1000");
        bridge.setTo(640);
        int[][] due = {{1000, 7, 6}, {100, -8, 4}, {10, 9, 0}};
        for (int decade = 0; decade < 3; decade++) {
            for (int what = 0; what < 3; what++) {
                Check.due("decade " + decade + " " + what, bridge.decade(decade, what), due[decade][what]);
            }
        }
        Check.dueIndex("decade -1", () -> bridge.decade(-1, 0));
        Check.dueIndex("decade 3 of 3", () -> bridge.decade(3, 5));
        Check.dueArgument("decade what -1", () -> bridge.decade(0, -1));
        Check.dueArgument("decade what 3", () -> bridge.decade(2, 3));
        DecadeBridge most = Bridges.made("box 4 0 0 0 0 -50000;unknown 1000");
        Check.due("the greatest step", most.decade(0, 0), 10000000);
        Check.due("the error of the lowest decade", most.decade(3, 1), -50000);
    }

    private static void leads() {
        DecadeBridge bridge = Bridges.made("box 0 0 0 0;unknown 1000;leads 5 0 99999");
        Check.due("lead 0", bridge.lead(0), 5);
        Check.due("lead 1", bridge.lead(1), 0);
        Check.due("lead 2", bridge.lead(2), 99999);
        Check.dueIndex("lead -1", () -> bridge.lead(-1));
        Check.dueIndex("lead 3", () -> bridge.lead(3));
    }

    private static void partsOfBoth() {
        DecadeBridge bridge = Bridges.made("box 2 50 1000 -1000;unknown 40000;warm unknown 4000 3 2;"
                + "warm box -4000 30 10;leads 7 11 13;supply 20000 1000000");
        bridge.setTo(23);
        // 2 * 1000 * 1.001 + 3 * 100 * 0.999 + 50
        int cold = 2002 + 299 + 50;
        due(bridge, false, 40000, 40000, 4000, 3, 2, 0, 40018);
        due(bridge, true, cold, cold, -4000, 30, 10, 0, cold);
        bridge.connect(3);
        due(bridge, false, 40000, 40000, 4000, 3, 2, 0, 40007);
        due(bridge, true, cold, cold, -4000, 30, 10, 0, cold + 11);
        bridge.connect(2);
        heat(bridge, cold);
        Check.dueArgument("part -1", () -> bridge.part(false, -1));
        Check.dueArgument("part 7", () -> bridge.part(true, 7));
    }

    private static void due(DecadeBridge bridge, boolean box, int... due) {
        for (int what = 0; what < due.length; what++) {
            Check.due((box ? "part of the box " : "part of the unknown ") + what, bridge.part(box, what), due[what]);
        }
    }

    private static void heat(DecadeBridge bridge, int cold) {
        long current = 20000000000L / (40018 + cold);
        long c = Math.min(current, 1000000);
        long powerOfUnknown = c * c / 1000 * 40000 / 1000000;
        long powerOfBox = c * c / 1000 * cold / 1000000;
        bridge.read();
        int hot = (int) Math.min(200000, powerOfUnknown * 3 / 1000);
        int hotBox = (int) Math.min(200000, powerOfBox * 30 / 1000);
        Check.due("the unknown's temperature", bridge.part(false, 5), hot);
        Check.due("the box's temperature", bridge.part(true, 5), hotBox);
        Check.due("the unknown's warm value", bridge.part(false, 1), 40000 * (1000000000L + 4000L * hot) / 1000000000L);
        Check.due("the box's warm value", bridge.part(true, 1), cold * (1000000000L - 4000L * hotBox) / 1000000000L);
        Check.due("the cold values stay", bridge.part(false, 0) + bridge.part(true, 0), 40000 + cold);
        Check.due("the sides are warm", bridge.part(false, 6), bridge.part(false, 1) + 18);
    }

    private static void coldValues() {
        DecadeBridge bridge = Bridges.made("box 1 3 50000 -50000 1;unknown 1000");
        Check.due("the cold value of 0 is CONTACT", bridge.coldOf(0), 3);
        Check.due("coldOf 100", bridge.coldOf(100), 1053);
        Check.due("coldOf 10", bridge.coldOf(10), 98);
        Check.due("coldOf 9", bridge.coldOf(9), 93);
        Check.due("coldOf 999", bridge.coldOf(999), 9450 + 855 + 90 + 3);
        Check.due("the setting stays", bridge.size(14), 0);
        Check.dueArgument("coldOf -1", () -> bridge.coldOf(-1));
        Check.dueArgument("coldOf 1000", () -> bridge.coldOf(1000));
        // The sum of the decades is divided once: 10.5 and 5.25 are 15 together.
        DecadeBridge whole = Bridges.made("box 0 0 50000 50000;unknown 1000");
        Check.due("coldOf 15 is divided as one sum", whole.coldOf(15), 15);
        Check.due("coldOf 19 is divided as one sum", whole.coldOf(19), 19);
        Check.due("coldOf 91 is divided as one sum", whole.coldOf(91), 95);
        Check.due("coldOf 95", whole.coldOf(95), 99);
        Check.due("coldOf 99", whole.coldOf(99), 103);
        DecadeBridge less = Bridges.made("box 0 0 -1 -1;unknown 1000");
        Check.due("0.999999 is 0", less.coldOf(1), 0);
        Check.due("9.99999 is 9", less.coldOf(10), 9);
        DecadeBridge most = Bridges.made("box 4 999 50000 50000 50000 50000;unknown 1000");
        Check.due("the greatest cold value", most.coldOf(9999), 104989500 + 999);
    }
}
