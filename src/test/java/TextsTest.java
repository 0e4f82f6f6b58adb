// Promises 1 to 5: a new object, feed, load, run, errorPosition.
public final class TextsTest {
    public static void main(String[] args) {
        newObject();
        feeding();
        goodSetups();
        wrongSetups();
        setupErrorsChangeNothing();
        goodProtocols();
        wrongProtocols();
        stops();
        Check.end();
    }

    private static void newObject() {
        DecadeBridge made = new DecadeBridge();
        int[] due = {2, 1, 0, 1000, 1000000, 9999999, 0, 0, 0, 0, 0, 0, 0, 2, 0, 0, 0, 0, 0, 0};
        for (int what = 0; what < due.length; what++) {
            Check.due("size " + what + " of a new bridge", made.size(what), due[what]);
        }
        Check.due("the unknown of a new bridge", made.part(false, 0), 1000);
        Check.due("errorPosition of a new bridge", made.errorPosition(), -1);
        Check.due("the buffer of a new bridge is empty", made.load(), -11);
        Check.due("and its end is position 0", made.errorPosition(), 0);
        for (int i = 0; i < 3; i++) {
            Check.due("lead of a new bridge", made.lead(i), 0);
        }
        for (int what = 2; what <= 5; what++) {
            Check.due("no heating in a new bridge", made.part(true, what) + made.part(false, what), 0);
        }
        // The seed is 1: x becomes 1103527590, whose upper half is 16838.
        DecadeBridge noisy = Bridges.made("box 2 0 0 0;unknown 1000;detector 9999999 100 0 0");
        noisy.setTo(10);
        noisy.read();
        Check.due("the first draw by a seed of 1", noisy.reading(0), 16838 % 201 - 100);
        Check.due("without supply the volts are 1000", new DecadeBridge().current(), 1000000);
    }

    private static void feeding() {
        DecadeBridge bridge = new DecadeBridge();
        Check.due("bytes of 0 are left out", bridge.feed(0, 0, 0, 0, 0), 0);
        Check.due("feed", bridge.feed(0x62000000, 0x006f0000, 0x00007800, 0x00000020, 0), 4);
        Check.due("feed", bridge.feed(0x30203020, 0x30203000, 0, 0, 0), 11);
        Check.due("the order of the bytes is kept", bridge.load(), -14);
        Check.due("the buffer is empty behind load", bridge.feed(0x20202020, 0, 0, 0, 0), 4);
        for (int i = 0; i < 29; i++) {
            bridge.feed(-1, -1, -1, -1, -1);
        }
        Check.due("feed up to 599", bridge.feed(0x01010101, 0x01010101, 0x01010101, 0x00010101, 0), 599);
        Check.due("601 is too many", bridge.feed(0x01010000, 0, 0, 0, 0), -1);
        Check.due("601 is too many", bridge.feed(0, 0, 0, 0, 0x00000101), -1);
        Check.due("601 is too many", bridge.feed(0, 0x00000101, 0, 0, 0), -1);
        Check.due("601 is too many", bridge.feed(0, 0, 0x01000001, 0, 0), -1);
        Check.due("601 is too many", bridge.feed(0, 0, 0, 0x01010000, 0), -1);
        Check.due("601 is too many", bridge.feed(0x01000000, 0, 0, 0, 1), -1);
        Check.due("600 is not", bridge.feed(0, 0, 0x00010000, 0, 0), 600);
        Check.due("nothing more at 600", bridge.feed(0, 0, 0, 0, 0), 600);
        Check.due("one more is too many", bridge.feed(1, 0, 0, 0, 0), -1);
        Check.due("the first byte that is no token", bridge.run(), -11);
        Check.due("its position", bridge.errorPosition(), 4);
        Check.due("the buffer is empty behind run", bridge.feed(0, 0, 0, 0, 0), 0);
    }

    private static void good(String setup, int decades) {
        DecadeBridge bridge = new DecadeBridge();
        Check.due("load of " + setup, Bridges.load(bridge, setup), decades);
        Check.due("errorPosition behind " + setup, bridge.errorPosition(), -1);
    }

    private static void goodSetups() {
        good("box 0 0 0 0;unknown 1000", 2);
        good("box 4 999 -50000 50000 - 50000;unknown 100000000", 3);
        good("unknown 0001000;box 00 00000000 1 2 3 -4", 4);
        good("box0 0-1-2-3;unknown1000", 3);
        good("\n box 0 0 -0 0 \n; unknown\n1000 \n", 2);
        good("box 0 0 0 0;unknown 1000;warm box -4000 0 0;warm unknown 4000 999 99", 2);
        good("box 0 0 0 0;unknown 1000;leads 0 99999 0;supply 20000 1;detector 1 9999 999 -99999;seed 99999", 2);
        good("box 0 0 0 0;unknown 1000;supply 0 1000000;detector 9999999 0 0 99999;seed 0", 2);
        good("ratio 4 50000;ratio 0 -50000;box 0 0 0 0;ratio 1 0;ratio 2 0;unknown 1000;ratio 3 0", 2);
        DecadeBridge bridge = Bridges.made("box 2 7 10 -20 30;unknown 4321;warm unknown -5 6 7;warm box 8 9 10;"
                + "leads 11 12 13;supply 14 15;detector 16 17 18 -19;ratio 3 500;seed 5");
        int[] due = {3, 100, 7, 14, 15, 16, 17, 18, -19, 0, 0, 0, 0, 2, 0, 0, 0, 0, 0, 0};
        for (int what = 0; what < due.length; what++) {
            Check.due("size " + what + " as loaded", bridge.size(what), due[what]);
        }
        bridge.setArms(3, 2);
        bridge.setVolts(20);
        bridge.turn();
        bridge.connect(3);
        bridge.setTo(456);
        bridge.rest(5);
        bridge.save(0);
        Check.due("load anew", Bridges.load(bridge, "box 0 0 0 0;unknown 1000"), 2);
        int[] again = {2, 1, 0, 1000, 1000000, 9999999, 0, 0, 0, 0, 0, 0, 0, 2, 0, 0, 0, 0, 0, 0};
        for (int what = 0; what < again.length; what++) {
            Check.due("size " + what + " as loaded anew", bridge.size(what), again[what]);
        }
        Check.due("the errors of ratios are 0 again", bridge.ratio(3, 1), 0);
        Check.due("saved states are discarded", bridge.restore(0), -1);
        Check.due("what can be undone is discarded", bridge.undo(), -1);
        Check.due("the leads are 0 again", bridge.lead(0) + bridge.lead(1) + bridge.lead(2), 0);
        Check.due("no heating", bridge.part(false, 3) + bridge.part(true, 4), 0);
    }

    private static void wrong(String setup, int code, int position) {
        DecadeBridge bridge = new DecadeBridge();
        Check.due("load of " + setup, Bridges.load(bridge, setup), -10 - code);
        Check.due("errorPosition behind " + setup, bridge.errorPosition(), position);
    }

    private static void wrongSetups() {
        wrong("", 1, 0);
        wrong("  ", 1, 2);
        wrong("box 0 0 0 0", 4, 11);
        wrong("unknown 1000 ", 4, 13);
        wrong("seed 1", 4, 6);
        wrong("box 0 0 0 0;", 1, 12);
        wrong("box 0 0 0", 1, 9);
        wrong("box 0 0 0 -", 1, 11);
        wrong("box 0 0 0 -;", 1, 11);
        wrong("box 0 0 0 --1;", 1, 11);
        wrong("box -0 0 0 0;", 1, 4);
        wrong("box 0 0 0 0 0 0 0;unknown 1000", 1, 16);
        wrong("box 0 0 0 0;;unknown 1000", 1, 12);
        wrong(";box 0 0 0 0", 1, 0);
        wrong("boxes 0 0 0 0;unknown 1000", 1, 0);
        wrong("Box 0 0 0 0;unknown 1000", 1, 0);
        wrong("box 0 0 0 0,unknown 1000", 1, 11);
        wrong("box 0 0 0 0;unknown 1000;", 1, 25);
        wrong("box 0 0 0 0;unknown 1000)", 1, 24);
        wrong("box 0 0 0 0;unknown 1000\t", 1, 24);
        wrong("box 0 0 0 0;unknown 1000 \u00e9", 1, 25);
        wrong("box 5 0 0 0;unknown 1000", 2, 4);
        wrong("box 0 1000 0 0;unknown 1000", 2, 6);
        wrong("box 0 0 50001 0;unknown 1000", 2, 8);
        wrong("box 0 0 0 - 50001;unknown 1000", 2, 12);
        wrong("box 0 0 0 0 0 0000000000;unknown 1000", 2, 14);
        wrong("box 0 0 0 0;unknown 999", 2, 20);
        wrong("box 0 0 0 0;unknown 100000001", 2, 20);
        wrong("box 0 0 0 0;unknown -1000", 1, 20);
        wrong("box 0 0 0 0;unknown 9999999999", 2, 20);
        wrong("ratio 5 0", 2, 6);
        wrong("ratio 4 50001", 2, 8);
        wrong("ratio 4 -50001", 2, 9);
        wrong("ratio 3 1;ratio 4 1;ratio 3 9", 3, 26);
        wrong("ratio 3 1;ratio 3", 3, 16);
        wrong("box 0 0 0 0;box 0 0 0 0", 3, 12);
        wrong("box 0 0 0 0;unknown 1000;unknown", 3, 25);
        wrong("leads 1 1 1;leads 1 1 1", 3, 12);
        wrong("supply 1 1;supply 1 1", 3, 11);
        wrong("detector 1 1 1 1;detector 1 1 1 1", 3, 17);
        wrong("seed 1;seed 1", 3, 7);
        wrong("warm box 0 0 0;warm unknown 0 0 0;warm box 0 0 0", 3, 39);
        wrong("warm unknown 0 0 0;warm unknown", 3, 24);
        wrong("warm lead 0 0 0", 1, 5);
        wrong("warm", 1, 4);
        wrong("warm box 4001 0 0", 2, 9);
        wrong("warm box -4001 0 0", 2, 10);
        wrong("warm box 0 1000 0", 2, 11);
        wrong("warm box 0 -1 0", 1, 11);
        wrong("warm unknown 0 0 100", 2, 17);
        wrong("leads 100000 0 0", 2, 6);
        wrong("leads 0 100000 0", 2, 8);
        wrong("leads 0 0 100000", 2, 10);
        wrong("leads 0 0", 1, 9);
        wrong("supply 20001 1", 2, 7);
        wrong("supply 0 0", 2, 9);
        wrong("supply 0 1000001", 2, 9);
        wrong("detector 0 0 0 0", 2, 9);
        wrong("detector 10000000 0 0 0", 2, 9);
        wrong("detector 1 10000 0 0", 2, 11);
        wrong("detector 1 0 1000 0", 2, 13);
        wrong("detector 1 0 0 100000", 2, 15);
        wrong("detector 1 0 0 -100000", 2, 16);
        wrong("seed 100000", 2, 5);
        wrong("seed -1", 1, 5);
        wrong("seed", 1, 4);
        wrong("box 0 0 0 0 unknown 1000", 1, 12);
        wrong("bo x 0 0 0 0", 1, 0);
        wrong("cox 0 0 0 0", 1, 0);
        wrong("boxz 0 0 0 0", 1, 0);
        wrong("box z 0 0 0", 1, 4);
        wrong("box 0 0 0 0;unknown 1000{", 1, 24);
        wrong("box 0 0 0 0;unknown 1000:", 1, 24);
        wrong("box 0 0 0 0;unknown 1000/", 1, 24);
        wrong("box 0 0 0 0;unknown 1000`", 1, 24);
        wrong("box 0 0 0 0;unknown 1000\r", 1, 24);
    }

    private static void setupErrorsChangeNothing() {
        DecadeBridge bridge = Bridges.made("box 1 3 5 5 5;unknown 2000;leads 1 2 3;seed 9");
        bridge.setTo(77);
        bridge.save(1);
        bridge.setTo(78);
        Check.due("an error at the end", Bridges.load(bridge, "box 0 0 0 0;unknown 1000;leads 4 5 6;seed 8;bad"), -11);
        Check.due("the decades stay", bridge.size(0), 3);
        Check.due("the setting stays", bridge.size(14), 78);
        Check.due("the lead stays", bridge.lead(2), 3);
        Check.due("the unknown stays", bridge.part(false, 0), 2000);
        Check.due("what can be undone stays", bridge.undo(), 1);
        Check.due("the saved state stays", bridge.restore(1), 0);
        Check.due("and brings back", bridge.size(14), 77);
        Check.due("the error position stays with other calls", bridge.errorPosition(), 44);
        Check.due("a good load clears the position", Bridges.load(bridge, "box 0 0 0 0;unknown 1000"), 2);
        Check.due("errorPosition", bridge.errorPosition(), -1);
    }

    private static void runs(DecadeBridge bridge, String protocol, int steps) {
        Check.due("run of " + protocol, Bridges.run(bridge, protocol), steps);
        Check.due("errorPosition behind " + protocol, bridge.errorPosition(), -1);
    }

    private static void goodProtocols() {
        DecadeBridge bridge = new DecadeBridge();
        runs(bridge, "", 0);
        Check.due("an empty protocol is recorded", bridge.size(19), 1);
        runs(bridge, " arms 3 4; volts 900; set 99;turn;wires 3;rest 99;read 1;", 7);
        int[] due = {900, 3, 4, 1, 3, 99, 1, 100};
        int[] whats = {3, 10, 11, 12, 13, 14, 15, 9};
        for (int i = 0; i < due.length; i++) {
            Check.due("size " + whats[i] + " behind a protocol", bridge.size(whats[i]), due[i]);
        }
        Check.due("run is one operation", bridge.size(19), 2);
        Check.due("undone as a whole", bridge.undo(), 1);
        Check.due("the time is back", bridge.size(9), 0);
        runs(bridge, "repeat 3(rest 2;repeat 2(rest 1;););", 9);
        Check.due("the time behind repeats", bridge.size(9), 12);
        runs(bridge, "repeat 0(rest 2;);rest 1;", 1);
        Check.due("repeat 0 does nothing", bridge.size(9), 13);
        runs(bridge, "unless null(rest 1;);", 1);
        runs(bridge, "set 10;read 1;unless null(rest 1;);", 3);
        runs(bridge, "set 10;arms 0 0;volts 1;", 3);
        DecadeBridge even = Bridges.made("box 2 0 0 0;unknown 1000");
        runs(even, "set 10;read 1;unless null(rest 50;);turn;", 3);
        Check.due("a null keeps the bracket out", even.size(9), 1);
        runs(even, "set 11;repeat 3(unless null(read 1;set 10;);rest 1;);", 4);
        runs(even, "set 11;read 1;unless null(unless null(rest 2;););balance turned;", 4);
        runs(even, "repeat 20(repeat 20(););unless null();", 0);
        runs(even, "balance;set 0;balance turned;", 3);
        DecadeBridge drawn = Bridges.made("box 2 0 0 0;unknown 2000;detector 9999999 9999 0 9999");
        runs(drawn, "unless null(rest 1;);", 1);
    }

    private static void wrongRun(String protocol, int code, int position) {
        DecadeBridge bridge = Bridges.made("box 2 0 0 0;unknown 2000");
        bridge.setTo(7);
        Check.due("run of " + protocol, Bridges.run(bridge, protocol), -10 - code);
        Check.due("errorPosition behind " + protocol, bridge.errorPosition(), position);
        Check.due("nothing is recorded of " + protocol, bridge.size(19), 1);
        Check.due("nothing is done of " + protocol, bridge.size(14), 7);
        Check.due("the buffer is empty behind " + protocol, bridge.feed(0, 0, 0, 0, 0), 0);
    }

    private static void wrongProtocols() {
        wrongRun("set 5", 1, 5);
        wrongRun("set 5;;", 1, 6);
        wrongRun(";", 1, 0);
        wrongRun("set 5;turn", 1, 10);
        wrongRun("set 5;Turn;", 1, 6);
        wrongRun("turned;", 1, 0);
        wrongRun("set;", 1, 3);
        wrongRun("set -5;", 1, 4);
        wrongRun("set 5 5;", 1, 6);
        wrongRun("set 10000;", 2, 4);
        wrongRun("volts 20001;", 2, 6);
        wrongRun("arms 5 0;", 2, 5);
        wrongRun("arms 0 5;", 2, 7);
        wrongRun("arms 0;", 1, 6);
        wrongRun("wires 1;", 2, 6);
        wrongRun("wires 4;", 2, 6);
        wrongRun("rest 0;", 2, 5);
        wrongRun("rest 100;", 2, 5);
        wrongRun("read 0;", 2, 5);
        wrongRun("read 21;", 2, 5);
        wrongRun("read;", 1, 4);
        wrongRun("read 0000000001;", 2, 5);
        wrongRun("repeat 21(turn;);", 2, 7);
        wrongRun("repeat (turn;);", 1, 7);
        wrongRun("repeat 2 turn;", 1, 9);
        wrongRun("repeat 2(turn;", 1, 14);
        wrongRun("repeat 2(turn);", 1, 13);
        wrongRun("repeat 2(turn;)", 1, 15);
        wrongRun("repeat 2(turn;));", 1, 15);
        wrongRun("turn;);", 1, 5);
        wrongRun("unless (turn;);", 1, 7);
        wrongRun("unless nulls(turn;);", 1, 7);
        wrongRun("balance null;", 1, 8);
        wrongRun("balance turned turned;", 1, 15);
        wrongRun("null;", 1, 0);
        wrongRun("repeat 2(repeat 2(repeat 2(turn;);););", 3, 26);
        wrongRun("unless null(repeat 2(unless null (turn;);););", 3, 33);
        wrongRun("repeat 2(repeat 2(repeat 2 turn;););", 1, 27);
        wrongRun("repeat 2(repeat 2(repeat 21(turn;););", 2, 25);
        wrongRun("turn;".repeat(30) + "turn;", 4, 150);
        wrongRun("turn;".repeat(30) + "what;", 1, 150);
        wrongRun("turn;".repeat(30) + "set 99999;", 4, 150);
        wrongRun("turn;".repeat(30) + ";", 1, 150);
        wrongRun("repeat 1(" + "turn;".repeat(29) + "unless null();", 4, 154);
        wrongRun("repeat 0(unless null(" + "turn;".repeat(28) + ");turn;", 4, 163);
        DecadeBridge bridge = new DecadeBridge();
        Check.due("30 steps are not too many", Bridges.run(bridge, "turn;".repeat(30)), 30);
        Check.due("nor with repeat and unless",
                Bridges.run(bridge, "repeat 1(unless null(" + "turn;".repeat(28) + "););"), 28);
        Check.due("two brackets side by side",
                Bridges.run(bridge, "repeat 1(unless null(turn;);repeat 2(turn;););repeat 1(turn;);"), 4);
    }

    private static void stops() {
        DecadeBridge bridge = Bridges.made("box 2 0 0 0;unknown 2000;supply 100 1000000");
        runs(bridge, "set 9;set 100;set 8;", 1);
        Check.due("what was done before stays", bridge.size(14), 9);
        runs(bridge, "volts 0;read 3;set 1;", 1);
        runs(bridge, "balance;set 1;", 0);
        Check.due("a run that does nothing is recorded", bridge.size(19), 3);
        Check.due("the setting stays", bridge.size(14), 9);
        runs(bridge, "repeat 20(repeat 20(rest 1;););", 60);
        Check.due("60 steps are done", bridge.size(9), 60);
        runs(bridge, "repeat 19(rest 1;set 1;rest 1;);set 1;rest 1;rest 1;rest 1;rest 1;", 60);
        Check.due("the 61st is not", bridge.size(9), 60 + 38 + 2);
        runs(bridge, "repeat 20(rest 1;set 1;rest 1;);", 60);
        // Readings warm the unknown up from 1000 to 200: the current goes above MOST between two of them.
        DecadeBridge cooling = Bridges.made("box 0 0 0 0;unknown 1000000;supply 20000 21000;warm unknown -4000 999 0");
        cooling.setTo(0);
        int before = cooling.size(15);
        Bridges.run(cooling, "read 20;set 5;");
        int made = cooling.size(15) - before;
        Check.due("the readings ahead of the stop stay", made > 0 && made < 20 ? 1 : 0, 1);
        Check.due("the protocol ended there", cooling.size(14), 0);
        Check.due("the current is above MOST then", cooling.whyNot(), 2);
        Check.due("a read that stopped is recorded by its run", cooling.undo(), 1);
        Check.due("and undone", cooling.size(15), 0);
        DecadeBridge tight = Bridges.made("box 0 0 0 0;unknown 1000;supply 20000 1");
        runs(tight, "read 1;", 0);
        runs(tight, "balance;set 3;", 2);
    }
}
