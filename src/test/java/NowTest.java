// Promises 12 to 20: share, deflection, current, power, whyNot, energy, reading, meanReading, spread.
public final class NowTest {
    public static void main(String[] args) {
        shares();
        currents();
        whyNots();
        energies();
        readings();
        limits();
        ticks();
        means();
        Check.end();
    }

    private static void shares() {
        DecadeBridge bridge = Bridges.made("box 2 0 0 0;unknown 1500;leads 100 200 900;ratio 0 50000;supply 1234 1000000");
        bridge.setTo(21);
        Check.due("the unknown's share", bridge.share(false), 461538461);
        Check.due("the arms' share of equal arms", bridge.share(true), 500000000);
        Check.due("the deflection", bridge.deflection(), 1234L * (461538461 - 500000000) / 1000);
        bridge.turn();
        Check.due("the deflection turned", bridge.deflection(), -(1234L * (461538461 - 500000000) / 1000));
        bridge.connect(3);
        Check.due("the unknown's share with three leads", bridge.share(false), 1600L * 1000000000 / (2300 + 1600));
        bridge.setArms(1, 0);
        Check.due("the arms' share", bridge.share(true), 1050L * 1000000000 / 11050);
        bridge.setArms(0, 1);
        Check.due("the arms' share", bridge.share(true), 10000L * 1000000000 / 11050);
        bridge.setVolts(0);
        Check.due("no deflection without volts", bridge.deflection(), 0);
        bridge.setTo(0);
        bridge.connect(2);
        Check.due("the greatest share", bridge.share(false), 1000000000);
    }

    private static void currents() {
        DecadeBridge bridge = Bridges.made("box 2 0 0 0;unknown 3000;leads 7 8 9;supply 200 10");
        bridge.setTo(10);
        Check.due("the current", bridge.current(), 200000000L / (1000 + 3015));
        long c = 200000000L / 4015;
        Check.due("the power of the unknown", bridge.power(false), c * c / 1000 * 3000 / 1000000);
        Check.due("the power of the box", bridge.power(true), c * c / 1000 * 1000 / 1000000);
        Check.due("no reading can be made", bridge.whyNot(), 2);
        bridge.setVolts(20000);
        bridge.setTo(0);
        Check.due("a great current", bridge.current(), 20000000000L / 3015);
        Check.due("the power is of a current of 1000000", bridge.power(false), 3000000);
        Check.due("the box of 0 milliohms has no power", bridge.power(true), 0);
        bridge.setVolts(0);
        Check.due("no current", bridge.current(), 0);
        Check.due("no power", bridge.power(false), 0);
        // c * c / 1000 comes ahead of the warm value: from the left to the right.
        DecadeBridge left = Bridges.made("box 0 0 0 0;unknown 99999999;supply 199 1000000");
        Check.due("a small current", left.current(), 1);
        Check.due("1 * 1 / 1000 is 0", left.power(false), 0);
    }

    private static void whyNots() {
        DecadeBridge bridge = Bridges.made("box 2 0 0 0;unknown 1000;supply 0 100000");
        Check.due("VOLTS is 0", bridge.whyNot(), 1);
        bridge.setVolts(100);
        Check.due("a current of MOST", bridge.current(), 100000);
        Check.due("is not above it", bridge.whyNot(), 0);
        bridge.setVolts(101);
        Check.due("the current is above MOST", bridge.whyNot(), 2);
        Check.due("no reading", bridge.read(), -3);
        bridge.setTo(1);
        Check.due("the box counts too", bridge.whyNot(), 0);
    }

    private static void energies() {
        DecadeBridge bridge = Bridges.made("box 2 0 0 0;unknown 1000;supply 1000 1000000");
        Check.due("no energy yet", bridge.energy(), 0);
        bridge.read();
        Check.due("the energy of one tick", bridge.energy(), 1000000);
        bridge.rest(9);
        Check.due("none comes in a rest", bridge.energy(), 1000000);
        bridge.setTo(10);
        bridge.read();
        Check.due("the energy of two ticks", bridge.energy(), 1000000 + 250000);
        Check.due("power of the unknown now", bridge.power(false), 250000);
        bridge.undo();
        Check.due("the energy is undone", bridge.energy(), 1000000);
    }

    private static void readings() {
        DecadeBridge bridge = Bridges.made("box 2 0 0 0;unknown 1000;supply 1 1000000");
        Check.due("no reading yet", bridge.reading(0), DecadeBridge.HIDDEN);
        for (int i = 0; i < 12; i++) {
            bridge.setTo(10 + i);
            Check.due("readings kept", bridge.read(), Math.min(10, i + 1));
        }
        for (int i = 0; i < 10; i++) {
            long share = 1000000000L * 1000 / (1000 + 100 * (21 - i));
            Check.due("reading " + i, bridge.reading(i), (share - 500000000L) / 1000);
        }
        Check.due("reading 10", bridge.reading(10), DecadeBridge.HIDDEN);
        Check.due("reading -1", bridge.reading(-1), DecadeBridge.HIDDEN);
        Check.due("reading of the greatest int", bridge.reading(Integer.MAX_VALUE), DecadeBridge.HIDDEN);
        Check.due("readings made", bridge.size(15), 12);
    }

    private static void limits() {
        DecadeBridge bridge = Bridges.made("box 2 0 0 0;unknown 1000;supply 1 1000000;detector 5 0 0 0");
        bridge.read();
        Check.due("limited to FULL", bridge.reading(0), 5);
        bridge.turn();
        bridge.read();
        Check.due("limited to -FULL", bridge.reading(0), -5);
        Check.due("neither is a null", bridge.size(16), 0);
        DecadeBridge rough = Bridges.made("box 2 0 0 0;unknown 1000;supply 1 1000000;detector 5 5 0 0");
        rough.read();
        Check.due("a reading of NOISE is a null", rough.size(16), 1);
        Check.due("limited behind the noise", rough.reading(0), 5);
        DecadeBridge zero = Bridges.made("box 2 0 0 0;unknown 1000;supply 1 1000000;detector 9999999 0 0 -1234");
        zero.setTo(10);
        zero.read();
        Check.due("ZERO counts in a reading", zero.reading(0), -1234);
        zero.turn();
        zero.read();
        Check.due("and is not turned", zero.reading(0), -1234);
        Check.due("nor in the deflection", zero.deflection(), 0);
    }

    // The draws, told again: x becomes x * 1103515245 + 12345, and is shifted right by 16.
    private static int draw(int[] x, int n) {
        x[0] = x[0] * 1103515245 + 12345;
        return (x[0] >>> 16) % n;
    }

    private static void ticks() {
        DecadeBridge bridge = Bridges.made("box 2 0 0 0;unknown 1000;supply 1 1000000;detector 9999999 30 40 -50;seed 77");
        bridge.setTo(10);
        int[] x = {77};
        int zero = -50;
        for (int i = 0; i < 20; i++) {
            int due = zero + draw(x, 61) - 30;
            bridge.read();
            zero += draw(x, 81) - 40;
            Check.due("reading with noise " + i, bridge.reading(0), due);
            Check.due("ZERO has drifted " + i, bridge.size(8), zero);
            bridge.rest(1);
            zero += draw(x, 81) - 40;
            Check.due("ZERO drifts in a rest " + i, bridge.size(8), zero);
            Check.due("the time", bridge.size(9), 2 * i + 2);
        }
        DecadeBridge still = Bridges.made("box 2 0 0 0;unknown 1000;supply 1 1000000;detector 9999999 0 0 5;seed 3");
        still.rest(7);
        Check.due("ZERO stays without DRIFT", still.size(8), 5);
        DecadeBridge high = Bridges.made("box 2 0 0 0;unknown 1000;detector 9999999 0 999 99999");
        DecadeBridge low = Bridges.made("box 2 0 0 0;unknown 1000;detector 9999999 0 999 -99999");
        boolean highStayed = false;
        boolean lowStayed = false;
        for (int i = 0; i < 60; i++) {
            high.rest(1);
            low.rest(1);
            highStayed |= high.size(8) == 99999;
            lowStayed |= low.size(8) == -99999;
            Check.due("ZERO is limited", high.size(8) <= 99999 && low.size(8) >= -99999 ? 1 : 0, 1);
        }
        Check.due("ZERO comes to its limits", highStayed && lowStayed ? 1 : 0, 1);
        DecadeBridge hot = Bridges.made("box 2 0 0 0;unknown 1000;warm unknown 0 999 0;warm box 0 0 99");
        for (int i = 0; i < 250; i++) {
            hot.read();
        }
        Check.due("a temperature is at most 200000", hot.part(false, 5), 200000);
        Check.due("the other stays 0", hot.part(true, 5), 0);
    }

    private static void means() {
        DecadeBridge bridge = Bridges.made("box 2 0 0 0;unknown 1000;supply 1 1000000;detector 9999999 0 0 1");
        Check.dueDouble("meanReading without any", bridge.meanReading(), 0.0);
        Check.dueDouble("spread without any", bridge.spread(), 0.0f);
        bridge.setTo(10);
        bridge.read();
        Check.dueDouble("meanReading of one", bridge.meanReading(), 1.0);
        Check.dueDouble("spread of one", bridge.spread(), 0.0f);
        bridge.setTo(11);
        bridge.read();
        int other = bridge.reading(0);
        Check.due("the other one", other, 1 + (476190476 - 500000000) / 1000);
        Check.dueDouble("meanReading of two", bridge.meanReading(), (1.0 + other) / 2.0);
        Check.dueDouble("spread of two", bridge.spread(), (float) (1 - other));
        bridge.setTo(10);
        for (int i = 0; i < 9; i++) {
            bridge.read();
        }
        Check.dueDouble("meanReading of ten", bridge.meanReading(), (9.0 + other) / 10.0);
        bridge.read();
        Check.dueDouble("those no longer kept do not count", bridge.meanReading(), 1.0);
        Check.dueDouble("nor in the spread", bridge.spread(), 0.0f);
        DecadeBridge wide = Bridges.made("box 2 0 0 0;unknown 1000;supply 1000 1000000");
        wide.read();
        wide.turn();
        wide.read();
        Check.dueDouble("the greatest spread", wide.spread(), (float) 19999998);
        Check.dueDouble("meanReading of opposite ones", wide.meanReading(), 0.0);
    }
}
