// Promises 37 to 45: setArms, setVolts, setTo, setDigit, turn, connect, rest, read, balance.
public final class OperationsTest {
    private static final String EVEN = "box 2 0 0 0;unknown 3700;supply 100 1000000";

    public static void main(String[] args) {
        arms();
        volts();
        settings();
        digits();
        turnsAndWires();
        rests();
        reads();
        balances();
        turnedBalances();
        balancesThatStop();
        recorded();
        Check.end();
    }

    private static void arms() {
        DecadeBridge bridge = new DecadeBridge();
        Check.due("setArms", bridge.setArms(3, 4), 0);
        Check.due("the previous arms", bridge.setArms(4, 0), 34);
        Check.due("the previous arms", bridge.setArms(4, 0), 40);
        Check.due("FIRST", bridge.size(10), 4);
        Check.due("SECOND", bridge.size(11), 0);
        Check.dueIndex("setArms -1 0", () -> bridge.setArms(-1, 0));
        Check.dueIndex("setArms 5 0", () -> bridge.setArms(5, 0));
        Check.dueIndex("setArms 0 -1", () -> bridge.setArms(0, -1));
        Check.dueIndex("setArms 0 5", () -> bridge.setArms(0, 5));
        Check.due("nothing of that is recorded", bridge.size(19), 3);
        Check.due("nothing of that is chosen", bridge.size(10) * 10 + bridge.size(11), 40);
    }

    private static void volts() {
        DecadeBridge bridge = new DecadeBridge();
        Check.due("setVolts", bridge.setVolts(20000), 1000);
        Check.due("the previous ones", bridge.setVolts(0), 20000);
        Check.due("the previous ones", bridge.setVolts(5), 0);
        Check.dueArgument("setVolts -1", () -> bridge.setVolts(-1));
        Check.dueArgument("setVolts 20001", () -> bridge.setVolts(20001));
        Check.due("VOLTS stay", bridge.size(3), 5);
        Check.due("nothing of that is recorded", bridge.size(19), 3);
    }

    private static void settings() {
        DecadeBridge bridge = Bridges.made("box 0 0 0 0 0;unknown 1000");
        Check.due("setTo", bridge.setTo(999), 0);
        Check.due("the previous setting", bridge.setTo(40), 999);
        Check.due("no such setting", bridge.setTo(1000), -2);
        Check.due("no such setting", bridge.setTo(Integer.MAX_VALUE), -2);
        Check.dueArgument("setTo -1", () -> bridge.setTo(-1));
        Check.due("the setting stays", bridge.size(14), 40);
        Check.due("nothing of that is recorded", bridge.size(19), 2);
        Check.due("recorded though nothing changes", bridge.setTo(40), 40);
        Check.due("recorded", bridge.size(19), 3);
    }

    private static void digits() {
        DecadeBridge bridge = Bridges.made("box 0 0 0 0 0 0;unknown 1000");
        Check.due("setDigit 0", bridge.setDigit(0, 9), 9000);
        Check.due("setDigit 3", bridge.setDigit(3, 7), 9007);
        Check.due("setDigit 0 again", bridge.setDigit(0, 1), 1007);
        Check.due("setDigit 2", bridge.setDigit(2, 5), 1057);
        Check.due("setDigit 3 to 0", bridge.setDigit(3, 0), 1050);
        Check.due("the digit", bridge.decade(2, 2), 5);
        Check.due("the box follows", bridge.part(true, 0), 1050);
        Check.dueIndex("setDigit of decade -1", () -> bridge.setDigit(-1, 0));
        Check.dueIndex("setDigit of decade 4, digit 10", () -> bridge.setDigit(4, 10));
        Check.dueArgument("setDigit -1", () -> bridge.setDigit(0, -1));
        Check.dueArgument("setDigit 10", () -> bridge.setDigit(3, 10));
        Check.due("nothing of that is recorded", bridge.size(19), 5);
        DecadeBridge two = new DecadeBridge();
        Check.dueIndex("setDigit of decade 2 of 2", () -> two.setDigit(2, 0));
    }

    private static void turnsAndWires() {
        DecadeBridge bridge = new DecadeBridge();
        Check.due("turn", bridge.turn(), 1);
        Check.due("turned", bridge.size(12), 1);
        Check.due("turn back", bridge.turn(), 0);
        Check.due("connect", bridge.connect(3), 2);
        Check.due("the previous number", bridge.connect(3), 3);
        Check.due("the previous number", bridge.connect(2), 3);
        Check.dueArgument("connect 1", () -> bridge.connect(1));
        Check.dueArgument("connect 4", () -> bridge.connect(4));
        Check.due("nothing of that is recorded", bridge.size(19), 5);
        Check.due("the leads in use stay", bridge.size(13), 2);
    }

    private static void rests() {
        DecadeBridge bridge = Bridges.made("box 2 0 0 0;unknown 1000;warm unknown 0 10 10");
        Check.due("rest", bridge.rest(1), 1);
        Check.due("the time then", bridge.rest(99), 100);
        Check.dueArgument("rest 0", () -> bridge.rest(0));
        Check.dueArgument("rest 100", () -> bridge.rest(100));
        Check.due("the time stays", bridge.size(9), 100);
        Check.due("nothing of that is recorded", bridge.size(19), 2);
        bridge.read();
        Check.due("a reading warms", bridge.part(false, 5), 10000);
        bridge.rest(2);
        Check.due("a rest cools", bridge.part(false, 5), 8100);
    }

    private static void reads() {
        DecadeBridge bridge = Bridges.made("box 2 0 0 0;unknown 1000;supply 100 50000");
        Check.due("the current is above MOST", bridge.read(), -3);
        bridge.setTo(10);
        Check.due("read", bridge.read(), 1);
        Check.due("read again", bridge.read(), 2);
        Check.due("the time", bridge.size(9), 2);
        bridge.setVolts(0);
        Check.due("VOLTS is 0", bridge.read(), -2);
        Check.due("nothing of that is recorded", bridge.size(19), 4);
        Check.due("nothing of that is made", bridge.size(15), 2);
        for (int i = 0; i < 15; i++) {
            bridge.setVolts(1);
            Check.due("at most 10 are kept", bridge.read(), Math.min(10, 3 + i));
        }
        Check.due("17 are made", bridge.size(15), 17);
    }

    private static void ends(String what, DecadeBridge bridge, boolean turned, int how, int setting, int readings) {
        int made = bridge.size(15);
        int results = bridge.size(17);
        Check.due(what, bridge.balance(turned), how);
        Check.due("the setting of: " + what, bridge.size(14), setting);
        Check.due("the readings of: " + what, bridge.size(15) - made, readings);
        Check.due("the results of: " + what, bridge.size(17) - results, how <= 2 ? 1 : 0);
        if (how <= 2) {
            Check.due("how it ended: " + what, bridge.result(results, 5), how);
            Check.due("the time of: " + what, bridge.result(results, 4), bridge.size(9));
        }
    }

    private static void balances() {
        DecadeBridge bridge = Bridges.made(EVEN);
        bridge.setTo(99);
        ends("a null", bridge, false, 1, 37, 11);
        ends("a null again", bridge, false, 1, 37, 11);
        ends("behind the last decade", Bridges.made("box 2 0 0 0;unknown 3742;supply 100 1000000"), false, 2, 37, 12);
        // With nine as its last digit no look tells that the box is too great.
        ends("a nine", Bridges.made("box 2 0 0 0;unknown 3999;supply 100 1000000"), false, 2, 39, 13);
        ends("a nine ahead", Bridges.made("box 2 0 0 0;unknown 9550;supply 100 1000000"), false, 2, 95, 15);
        ends("all digits 9", Bridges.made("box 0 0 0 0;unknown 1000;supply 100 1000000"), false, 3, 99, 18);
        ends("all digits 9, even", Bridges.made("box 2 0 0 0;unknown 9900;supply 100 1000000"), false, 1, 99, 18);
        ends("all digits 0", Bridges.made("box 4 0 0 0 0;unknown 1000;supply 100 1000000"), false, 4, 0, 3);
        ends("the first digit", Bridges.made("box 2 0 0 0;unknown 1000;supply 100 1000000"), false, 1, 10, 1);
        DecadeBridge turned = Bridges.made(EVEN);
        turned.turn();
        ends("with the supply turned", turned, false, 1, 37, 11);
        DecadeBridge noise = Bridges.made(EVEN + ";detector 9999999 9999 0 0");
        int made = noise.size(15);
        Check.due("noise makes a null near the balance", noise.balance(false) <= 2 ? 1 : 0, 1);
        Check.due("by readings", noise.size(15) > made ? 1 : 0, 1);
        DecadeBridge zero = Bridges.made(EVEN + ";detector 9999999 0 0 99999");
        ends("the detector's zero makes the box seem too small", zero, false, 2, 37, 12);
        DecadeBridge great = Bridges.made("box 2 0 0 0;unknown 3700;supply 1 1000000;detector 9999999 0 0 -99999");
        Check.due("a great zero keeps the box lower", great.balance(false), 2);
        Check.due("than the balance", great.size(14) < 37 ? 1 : 0, 1);
    }

    private static void turnedBalances() {
        DecadeBridge bridge = Bridges.made("box 2 0 0 0;unknown 3700;supply 1 1000000;detector 9999999 0 0 -99999");
        ends("a turned balance takes the zero out", bridge, true, 1, 37, 22);
        Check.due("the supply is as it was", bridge.size(12), 0);
        Check.due("the latest reading is the zero", bridge.reading(0), -99999);
        bridge.turn();
        ends("and so with the supply turned", bridge, true, 1, 37, 22);
        Check.due("the supply is as it was", bridge.size(12), 1);
    }

    private static void balancesThatStop() {
        DecadeBridge none = Bridges.made("box 2 0 0 0;unknown 3700;supply 0 1000000");
        none.setTo(5);
        Check.due("VOLTS is 0", none.balance(false), -2);
        Check.due("VOLTS is 0, turned", none.balance(true), -2);
        Check.due("nothing changes", none.size(14), 5);
        Check.due("nothing is recorded", none.size(19), 1);
        DecadeBridge tight = Bridges.made("box 2 0 0 0;unknown 3700;supply 100 10");
        tight.setTo(55);
        ends("ahead of the first look", tight, false, 5, 10, 0);
        Check.due("that is recorded", tight.size(19), 2);
        // With a box of 1000 and more the current is at most 21276; with one of 100 more, less.
        DecadeBridge first = Bridges.made("box 2 0 0 0;unknown 3700;supply 100 21276");
        ends("a current of MOST", first, false, 1, 37, 11);
        ends("one less", Bridges.made("box 2 0 0 0;unknown 3700;supply 100 21275"), true, 5, 10, 0);
        // The unknown falls from 3700 to 740 while it warms up: behind the first look the current is too great.
        String falling = "box 2 0 0 0;unknown 3700;supply 1000 240000;warm unknown -4000 999 0";
        DecadeBridge single = Bridges.made(falling);
        int how = single.balance(true);
        Check.due("it ends ahead of the second look", how, 5);
        Check.due("the digit stays", single.size(14), 20);
        Check.due("the first look was its first reading alone", single.size(15), 1);
        Check.due("and told that the box is too small", single.reading(0), 9999999);
    }

    private static void recorded() {
        DecadeBridge bridge = Bridges.made(EVEN);
        bridge.balance(false);
        bridge.balance(true);
        Check.due("two are recorded", bridge.size(19), 2);
        bridge.undo();
        Check.due("a balance is undone as a whole", bridge.size(15), 11);
        bridge.undo();
        Check.due("and the first one too", bridge.size(15) + bridge.size(14) + bridge.size(17) + bridge.size(9), 0);
    }
}
