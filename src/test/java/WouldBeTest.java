// Promises 27 to 36: best, ideal, miss, better, bestWith, bestArms, apparent, foretold, steadyIn, cooledIn.
public final class WouldBeTest {
    public static void main(String[] args) {
        plainBalance();
        decadesThatOverlap();
        severalBest();
        withoutVolts();
        otherArms();
        wires();
        foretelling();
        steadying();
        nothingChanges();
        asItIsNow();
        Check.end();
    }

    private static void plainBalance() {
        DecadeBridge bridge = Bridges.made("box 2 0 0 0;unknown 3742;supply 1000 1000000");
        Check.due("best", bridge.best(), 37);
        Check.due("ideal", bridge.ideal(), 37);
        Check.due("miss", bridge.miss(), 0);
        Check.due("better than 0", bridge.better(), 99);
        bridge.setTo(37);
        Check.due("better than the best", bridge.better(), 0);
        bridge.setTo(38);
        Check.due("better than the next", bridge.better(), 1);
        bridge.turn();
        Check.due("better, turned", bridge.better(), 1);
        Check.due("best, turned", bridge.best(), 37);
        Check.due("ideal, turned", bridge.ideal(), 37);
        DecadeBridge near = Bridges.made("box 2 0 0 0;unknown 3782;supply 1000 1000000");
        Check.due("the best is above", near.best(), 38);
        Check.due("the ideal is below", near.ideal(), 37);
        long share37 = 1000000000L * 3782 / 7482;
        long share38 = 1000000000L * 3782 / 7582;
        Check.due("miss", near.miss(), (share37 - 500000000) - (500000000 - share38));
        DecadeBridge low = Bridges.made("box 4 0 0 0;unknown 1000");
        Check.due("all too great", low.ideal(), 0);
        Check.due("but 1 is nearer than a box of nothing", low.best(), 1);
        DecadeBridge high = Bridges.made("box 0 0 0 0;unknown 1000");
        Check.due("all too small", high.ideal(), 99);
        Check.due("the greatest is best", high.best(), 99);
        DecadeBridge blocked = Bridges.made("box 2 0 0 0;unknown 3742;supply 1000 1");
        Check.due("ideal whatever the current is", blocked.ideal(), 37);
    }

    // With great errors of the decades a greater setting may have a smaller cold value.
    private static void decadesThatOverlap() {
        DecadeBridge bridge = Bridges.made("box 1 0 -50000 50000 50000;unknown 9470;supply 20000 1000000");
        // 999 is 8550 + 945 + 94 = 9589; 990 is 9495; 987 is 8550 + 840 + 73 = 9463; 988 is 9474.
        Check.due("coldOf 988", bridge.coldOf(988), 9474);
        Check.due("best", bridge.best(), 988);
        Check.due("ideal", bridge.ideal(), 987);
        DecadeBridge other = Bridges.made("box 1 0 -50000 50000 50000;unknown 1030;supply 20000 1000000");
        // 100 is 950, 97 is 945 + 73 = 1018, 98 is 1029; 107 is 950 + 73 = 1023, 108 is 1034.
        Check.due("a lower setting is best", other.best(), 98);
        Check.due("the ideal one takes the digit", other.ideal(), 107);
        other.setTo(100);
        // Nearer than 950: 92 (966) to 99 (1039), 101 (960) to 109 (1044), 110 (1055) and 111 (1065), ...
        int nearer = 0;
        long here = Math.abs(offBy(950));
        for (int setting = 0; setting < 1000; setting++) {
            int cold = (setting / 100 * 950000 + setting / 10 % 10 * 105000 + setting % 10 * 10500) / 1000;
            nearer += Math.abs(offBy(cold)) < here ? 1 : 0;
        }
        Check.due("better", other.better(), nearer);
        Check.due("some are", nearer > 15 ? 1 : 0, 1);
    }

    // The deflection of 1030 against a box by 20000 millivolts.
    private static long offBy(int box) {
        return 20 * (1000000000L * 1030 / (1030 + box) - 500000000);
    }

    private static void severalBest() {
        DecadeBridge bridge = Bridges.made("box 0 0 0 0 0 0;unknown 50000000;supply 1 1000000");
        bridge.setArms(0, 4);
        // The deflection is rounded to 0 for many settings; the lowest one of them counts.
        int lowest = -1;
        int nulls = 0;
        int ones = 0;
        int lastOfOne = 0;
        for (int setting = 0; setting < 10000; setting++) {
            long share = 1000000000L * 50000000 / (50000000 + setting);
            long deflection = (share - 999900009) / 1000;
            if (deflection == 0) {
                nulls++;
                lowest = lowest < 0 ? setting : lowest;
            } else if (Math.abs(deflection) == 1) {
                ones++;
                lastOfOne = setting;
            }
        }
        Check.due("many settings are nulls", nulls > 20 && lowest < 5000 ? 1 : 0, 1);
        Check.due("of several the lowest one", bridge.best(), lowest);
        Check.due("ideal ends by a null", bridge.ideal(), 5000);
        Check.due("which is none the worse", bridge.miss(), 0);
        bridge.setTo(lastOfOne);
        Check.due("a deflection of -1", bridge.deflection(), -1);
        Check.due("better than 1", bridge.better(), nulls);
        bridge.setTo(lastOfOne + 1);
        Check.due("a deflection of -2", bridge.deflection(), -2);
        Check.due("better than 2", bridge.better(), nulls + ones);
        bridge.setTo(5001);
        Check.due("better than a null", bridge.better(), 0);
        DecadeBridge even = Bridges.made("box 0 0 0 0 0;unknown 1000;ratio 0 0;supply 1 1000000;leads 0 0 0");
        Check.due("the lowest one of an even balance", even.best(), 999);
    }

    private static void withoutVolts() {
        DecadeBridge bridge = Bridges.made("box 2 0 0 0 0;unknown 3742;supply 0 1000000");
        Check.due("each deflection is 0, the lowest setting is best", bridge.best(), 0);
        Check.due("the first look is a null", bridge.ideal(), 100);
        Check.due("miss", bridge.miss(), 0);
        Check.due("better", bridge.better(), 0);
    }

    private static void otherArms() {
        DecadeBridge bridge = Bridges.made("box 2 0 0 0 0;unknown 3742;supply 20000 1000000;ratio 0 1000;ratio 2 -2000");
        Check.due("bestWith equal arms", bridge.bestWith(0, 0), 37);
        Check.due("bestWith 1 0", bridge.bestWith(1, 0), 374);
        Check.due("bestWith 0 1", bridge.bestWith(0, 1), 4);
        Check.due("bestWith 2 0", bridge.bestWith(2, 0), 999);
        Check.due("the arms stay", bridge.size(10) * 10 + bridge.size(11), 0);
        Check.dueIndex("bestWith -1 0", () -> bridge.bestWith(-1, 0));
        Check.dueIndex("bestWith 5 0", () -> bridge.bestWith(5, 0));
        Check.dueIndex("bestWith 0 -1", () -> bridge.bestWith(0, -1));
        Check.dueIndex("bestWith 0 5", () -> bridge.bestWith(0, 5));
        int arms = bridge.bestArms();
        long least = Long.MAX_VALUE;
        int due = -1;
        for (int first = 0; first < 5; first++) {
            for (int second = 0; second < 5; second++) {
                int cold = bridge.coldOf(bridge.bestWith(first, second));
                long corrected = (long) cold * bridge.ratio(second, 2) / bridge.ratio(first, 2);
                if (Math.abs(corrected - 3742) < least) {
                    least = Math.abs(corrected - 3742);
                    due = 10 * first + second;
                }
            }
        }
        Check.due("bestArms", arms, due);
        DecadeBridge even = Bridges.made("box 3 0 0 0;unknown 50000;leads 9 8 7;warm unknown 4000 100 0;"
                + "supply 1000 1000000");
        even.read();
        even.connect(3);
        long nearest = Long.MAX_VALUE;
        for (int first = 0; first < 5; first++) {
            for (int second = 0; second < 5; second++) {
                long cold = even.coldOf(even.bestWith(first, second));
                long corrected = (cold + 8) * even.ratio(second, 2) / even.ratio(first, 2) - 9;
                if (Math.abs(corrected - even.part(false, 1)) < nearest) {
                    nearest = Math.abs(corrected - even.part(false, 1));
                    due = 10 * first + second;
                }
            }
        }
        Check.due("bestArms by the warm value, with three leads", even.bestArms(), due);
        DecadeBridge equal = Bridges.made("box 2 0 0 0;unknown 3700;supply 20000 1000000");
        Check.due("of several the least number", equal.bestArms(), 0);
    }

    private static void wires() {
        DecadeBridge bridge = Bridges.made("box 2 0 0 0;unknown 3700;leads 200 300 0;supply 20000 1000000;ratio 1 0");
        Check.due("two leads are taken for a part of it", bridge.apparent(2), 4200);
        Check.due("three leads: 3900 is 300 and the box", bridge.apparent(3), 3600);
        bridge.connect(3);
        Check.due("whatever is connected", bridge.apparent(2), 4200);
        Check.due("the leads in use stay", bridge.size(13), 3);
        bridge.setArms(0, 1);
        Check.due("by the arms in use", bridge.apparent(2), 4000);
        Check.dueArgument("apparent 1", () -> bridge.apparent(1));
        Check.dueArgument("apparent 4", () -> bridge.apparent(4));
    }

    private static void foretelling() {
        DecadeBridge bridge = Bridges.made("box 2 0 0 0;unknown 3700;supply 1000 1000000;warm unknown 4000 7 3;"
                + "warm box -3000 5 9;detector 9999999 500 500 0");
        bridge.setTo(25);
        DecadeBridge twin = Bridges.made("box 2 0 0 0;unknown 3700;supply 1000 1000000;warm unknown 4000 7 3;"
                + "warm box -3000 5 9;detector 9999999 500 500 0");
        twin.setTo(25);
        for (int ticks = 0; ticks <= 300; ticks += 20) {
            Check.due("the unknown's temperature in " + ticks, bridge.foretold(ticks, 0), twin.part(false, 5));
            Check.due("the box's temperature in " + ticks, bridge.foretold(ticks, 1), twin.part(true, 5));
            Check.due("the deflection in " + ticks, bridge.foretold(ticks, 2), twin.deflection());
            Bridges.run(twin, "read 20;");
        }
        Check.due("it grows warm", twin.part(false, 5) > 0 ? 1 : 0, 1);
        bridge.turn();
        Check.due("the deflection is of the supply as it is turned", bridge.foretold(0, 2), bridge.deflection());
        Check.dueArgument("foretold -1", () -> bridge.foretold(-1, 0));
        Check.dueArgument("foretold 301", () -> bridge.foretold(301, 0));
        Check.dueArgument("foretold what -1", () -> bridge.foretold(0, -1));
        Check.dueArgument("foretold what 3", () -> bridge.foretold(300, 3));
        DecadeBridge blocked = Bridges.made("box 2 0 0 0;unknown 1000;supply 1000 1;warm unknown 0 10 0");
        Check.due("foretold though no reading can be made", blocked.foretold(3, 0), 30000);
    }

    private static void steadying() {
        DecadeBridge cold = Bridges.made("box 2 0 0 0;unknown 1000");
        Check.due("steady at once without warming", cold.steadyIn(), 0);
        Check.due("cooled at once", cold.cooledIn(), 0);
        DecadeBridge hot = Bridges.made("box 2 0 0 0;unknown 1000;warm unknown 0 10 0");
        Check.due("20 ticks of 10000 come to 200000", hot.steadyIn(), 20);
        Check.due("cooled while cold", hot.cooledIn(), 0);
        hot.read();
        Check.due("19 more", hot.steadyIn(), 19);
        Check.due("without cooling nothing changes", hot.cooledIn(), 0);
        DecadeBridge slow = Bridges.made("box 2 0 0 0;unknown 1000;supply 100 1000000;warm unknown 0 66 0");
        // 10000 microwatts times 66 / 1000 are 660 a tick: 300 ticks come to 198000, the 304th is the last.
        Check.due("not within 300 ticks", slow.steadyIn(), -1);
        DecadeBridge edge = Bridges.made("box 2 0 0 0;unknown 1000;supply 1000 1000000;warm unknown 0 1 0");
        Check.due("200 ticks", edge.steadyIn(), 200);
        DecadeBridge box = Bridges.made("box 2 0 0 0;unknown 1000;supply 1000 1000000;warm box 0 1 0");
        Check.due("the box of 0 milliohms stays cold", box.steadyIn(), 0);
        box.setTo(10);
        // 250000 microwatts a tick times 1 / 1000: 250 a tick are not steady within 300.
        Check.due("the box counts too", box.steadyIn(), -1);
        DecadeBridge cooling = Bridges.made("box 2 0 0 0;unknown 1000;warm unknown 0 10 50");
        cooling.read();
        // 10000 5000 2500 1250 625 313 157 79 40 20 10 5 3 2 1 1: from 1 on a half is nothing.
        Check.due("cooled", cooling.cooledIn(), 14);
        // 10000 15000 17500 18750 19375 19688 19844 19922 19961 19981 19991 19996 19998 19999 20000 20000
        Check.due("steady", cooling.steadyIn(), 14);
        DecadeBridge long300 = Bridges.made("box 2 0 0 0;unknown 1000;supply 816 1000000;warm unknown 0 1 0");
        int ticks = 0;
        for (long at = 0; at < 200000; at += 665) {
            ticks++;
        }
        Check.due("301 ticks of 665 are too many", ticks, 301);
        Check.due("the power is 665856", long300.power(false), 665856);
        Check.due("steady behind 301 ticks is not within 300", long300.steadyIn(), -1);
        DecadeBridge just = Bridges.made("box 2 0 0 0;unknown 1000;supply 817 1000000;warm unknown 0 1 0");
        Check.due("667 a tick are steady behind 300", just.steadyIn(), 300);
    }

    // Each call looks at the bridge as it is now, whatever was asked before.
    private static void asItIsNow() {
        DecadeBridge bridge = Bridges.made("box 2 0 0 0 0;unknown 3742;supply 20000 1000000");
        bridge.ideal();
        bridge.setArms(1, 0);
        Check.due("miss now", bridge.miss(), missOf(3742, 374));
        bridge.setArms(0, 0);
        bridge.setTo(38);
        Check.due("better now", bridge.better(), 1);
        bridge.setArms(1, 0);
        bridge.setTo(900);
        Check.due("better now", bridge.better() > 500 ? 1 : 0, 1);
        Check.due("bestWith now", bridge.bestWith(0, 0), 37);
        bridge.setVolts(0);
        Check.due("bestWith without volts", bridge.bestWith(0, 0), 0);
        bridge.setVolts(1000);
        Check.due("best now", bridge.best(), 374);
        bridge.setVolts(0);
        Check.due("ideal without volts", bridge.ideal(), 100);
        Check.due("bestArms without volts", bridge.bestArms(), 0);
        bridge.setVolts(1000);
        Check.due("bestArms now", bridge.bestArms() > 0 ? 1 : 0, 1);
        Check.due("apparent now", bridge.apparent(2), 3740);
        bridge.setArms(0, 0);
        Check.due("apparent with other arms", bridge.apparent(2), 3700);
        Check.due("cooled", bridge.cooledIn(), 0);
    }

    // What the ideal setting and the next one are off, with arms of 10000 and 1000 and 20000 millivolts.
    private static long missOf(long unknown, int ideal) {
        long below = 20 * (1000000000L * unknown / (unknown + 100L * ideal) - 1000000000L / 11);
        long above = 20 * (1000000000L / 11 - 1000000000L * unknown / (unknown + 100L * (ideal + 1)));
        return below > above ? below - above : 0;
    }

    private static void nothingChanges() {
        DecadeBridge bridge = Bridges.made("box 2 5 6 7;unknown 3700;leads 2 3 4;warm unknown 9 9 9;warm box 8 8 8;"
                + "detector 9999999 5 5 5");
        bridge.setArms(1, 0);
        bridge.setTo(41);
        bridge.turn();
        bridge.read();
        int[] before = new int[20];
        for (int what = 0; what < 20; what++) {
            before[what] = bridge.size(what);
        }
        long deflection = bridge.deflection();
        DecadeBridge twin = Bridges.made("box 2 5 6 7;unknown 3700;leads 2 3 4;warm unknown 9 9 9;warm box 8 8 8;"
                + "detector 9999999 5 5 5");
        twin.setArms(1, 0);
        twin.setTo(41);
        twin.turn();
        twin.read();
        bridge.best();
        bridge.ideal();
        bridge.miss();
        bridge.better();
        bridge.bestWith(3, 2);
        bridge.bestArms();
        bridge.apparent(3);
        bridge.foretold(100, 2);
        bridge.steadyIn();
        bridge.cooledIn();
        for (int what = 0; what < 20; what++) {
            Check.due("size " + what + " stays", bridge.size(what), before[what]);
        }
        Check.due("the deflection stays", bridge.deflection(), deflection);
        bridge.read();
        twin.read();
        Check.due("the draws stay", bridge.reading(0), twin.reading(0));
    }
}
