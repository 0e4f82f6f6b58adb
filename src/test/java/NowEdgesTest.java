// Where the sentences of "Readings and ticks" and of promises 12 to 20 have their boundaries.
public final class NowEdgesTest {
    private static final int HIDDEN = -1000000000;

    public static void main(String[] args) {
        shares();
        deflections();
        currents();
        powers();
        mayRead();
        limits();
        limitBehindTheSum();
        nulls();
        kept();
        draws();
        zeros();
        heat();
        aheadOfTheTick();
        energies();
        times();
        means();
        spreads();
        Check.end();
    }

    private static String one(String rest) {
        return "box 2 0 0 0;unknown 1000" + (rest.isEmpty() ? "" : ";" + rest);
    }

    // ---- shares, deflection, current, power

    private static void shares() {
        DecadeBridge bridge = Bridges.made("box 4 0 50000 50000 50000 50000;unknown 1000;ratio 0 50000;ratio 4 -50000");
        Check.due("a box of 0 milliohms: the whole share", bridge.share(false), 1000000000);
        bridge.setTo(9999);
        Check.due("the least share", bridge.share(false), 1000L * 1000000000 / (104989500 + 1000));
        bridge.setTo(1);
        Check.due("rounded towards zero", bridge.share(false), 1000000000L * 1000 / 11500);
        Check.due("equal arms", bridge.share(true), 500000000);
        bridge.setArms(4, 4);
        Check.due("equal arms of another kind", bridge.share(true), 500000000);
        bridge.setArms(0, 4);
        Check.due("the greatest share of the arms", bridge.share(true), 9500000L * 1000000000 / 9501050);
        bridge.setArms(4, 0);
        Check.due("the least share of the arms", bridge.share(true), 1050L * 1000000000 / 9501050);
        DecadeBridge leads = Bridges.made("box 2 1 0 0;unknown 1000;leads 1 0 99999");
        Check.due("lead 0 counts", leads.share(false), 1000000000L * 1001 / 1002);
        leads.connect(3);
        Check.due("lead 2 counts nowhere", leads.share(false), 1000000000L * 1001 / 1002);
    }

    // "VOLTS * (unknown's share - arms' share) / 1000; if the supply is turned, it is the negative of that."
    private static void deflections() {
        // The shares differ by -3, as 500000000 * 90000000 / 90000000.5 is 499999997.2.
        DecadeBridge below = Bridges.made("box 4 1 0 0 0 0;unknown 90000000");
        below.setTo(9000);
        Check.due("a share that is 3 less", below.share(false), 499999997);
        deflection(below, 333, 0);
        deflection(below, 334, -1);
        deflection(below, 666, -1);
        deflection(below, 667, -2);
        deflection(below, 20000, -60);
        deflection(below, 0, 0);
        DecadeBridge above = Bridges.made("box 4 0 0 0 0 0;unknown 90000001");
        above.setTo(9000);
        Check.due("a share that is 2 more", above.share(false), 500000002);
        deflection(above, 499, 0);
        deflection(above, 500, 1);
        deflection(above, 999, 1);
        deflection(above, 1000, 2);
        deflection(above, 20000, 40);
        DecadeBridge great = Bridges.made("box 4 0 0 0 0 0;unknown 100000000");
        great.setArms(4, 0);
        deflection(great, 20000, 20000L * (1000000000 - 99990) / 1000);
        great.setArms(0, 4);
        great.setTo(9999);
        deflection(great, 20000, 20000L * (1000000000L * 100000000 / 199990000 - 999900009) / 1000);
    }

    private static void deflection(DecadeBridge bridge, int volts, long due) {
        bridge.setVolts(volts);
        Check.due("the deflection by " + volts, bridge.deflection(), due);
        bridge.turn();
        Check.due("turned, by " + volts, bridge.deflection(), -due);
        bridge.turn();
        Check.due("turned back, by " + volts, bridge.deflection(), due);
    }

    // "1000000 * VOLTS / (box's side + unknown's side)", rounded towards zero.
    private static void currents() {
        DecadeBridge bridge = Bridges.made("box 4 0 0 0 0 0;unknown 99999999;leads 1 1 99999");
        int[][] due = {{0, 0}, {100, 0}, {101, 1}, {200, 1}, {201, 2}, {20000, 199}};
        for (int[] row : due) {
            bridge.setVolts(row[0]);
            Check.due("the current by " + row[0], bridge.current(), row[1]);
        }
        bridge.turn();
        Check.due("the current of a supply that is turned", bridge.current(), 199);
        bridge.connect(3);
        Check.due("the leads count", bridge.current(), 199);
        bridge.setTo(5000);
        Check.due("the box counts", bridge.current(), 20000000000L / 150000001);
        DecadeBridge least = Bridges.made(one("supply 20000 1;warm unknown -4000 999 0"));
        Check.due("whether a reading can be made or not", least.current(), 20000000);
        Check.due("it can't", least.whyNot(), 2);
    }

    // "c * c / 1000 * its warm value / 1000000 (from the left to the right), c being the current, but at most 1000000."
    private static void powers() {
        DecadeBridge small = Bridges.made("box 4 0 0 0 0 0;unknown 100000000");
        power(small, 3199, 31, 0);
        power(small, 3200, 32, 100);
        power(small, 4399, 43, 100);
        power(small, 4499, 44, 100);
        power(small, 4500, 45, 200);
        DecadeBridge part = Bridges.made("box 4 0 0 0 0 0;unknown 1999999");
        power(part, 63, 31, 0);
        power(part, 64, 32, 1);
        power(part, 109, 54, 3);
        power(Bridges.made(one("")), 999, 999000, 998001);
        power(Bridges.made(one("")), 1000, 1000000, 1000000);
        power(Bridges.made(one("")), 1001, 1001000, 1000000);
        power(Bridges.made(one("")), 20000, 20000000, 1000000);
        power(Bridges.made("box 0 0 0 0;unknown 20001"), 20000, 999950, 999900002L * 20001 / 1000000);
        power(Bridges.made("box 0 0 0 0;unknown 20000"), 20000, 1000000, 20000000);
        power(Bridges.made("box 0 0 0 0;unknown 19999"), 20000, 1000050, 19999000);
        DecadeBridge box = Bridges.made("box 3 999 0 0;unknown 1000;supply 20000 1000000");
        Check.due("the box's power is by its own warm value", box.power(true), 999000);
        Check.due("the unknown's by its own", box.power(false), 1000000);
        box.setVolts(0);
        Check.due("no volts, no power of the box", box.power(true), 0);
        // Both have become 200 by 1000 of cold: 1000000 microamperes make 200000 microwatts.
        DecadeBridge warm = Bridges.made("box 2 0 0 0;unknown 1000;supply 2000 1000000;warm box -4000 200 0;"
                + "warm unknown -4000 200 0");
        warm.setTo(10);
        warm.read();
        warm.setVolts(400);
        Check.due("the current of warm parts", warm.current(), 1000000);
        Check.due("the power of a warm box", warm.power(true), 200000);
        Check.due("the power of a warm unknown", warm.power(false), 200000);
        warm.setTo(0);
        Check.due("the share of a warm unknown and no box", warm.share(false), 1000000000);
        DecadeBridge none = Bridges.made("box 3 0 0 0;unknown 1000;supply 20000 1");
        Check.due("a box of 0 milliohms has none", none.power(true), 0);
        Check.due("whether a reading can be made or not", none.power(false), 1000000);
    }

    private static void power(DecadeBridge bridge, int volts, long current, long due) {
        bridge.setVolts(volts);
        Check.due("the current by " + volts, bridge.current(), current);
        Check.due("the power by " + volts, bridge.power(false), due);
    }

    // ---- readings

    // "A reading can be made if VOLTS is not 0 and the current is at most MOST."
    private static void mayRead() {
        int[][] rows = {{100000, 0, 1}, {100000, 1, 0}, {100000, 100, 0}, {100000, 101, 2}, {1000000, 1000, 0},
            {1000000, 1001, 2}, {1, 1, 2}, {999, 1, 2}, {1000, 1, 0}};
        for (int[] row : rows) {
            DecadeBridge bridge = Bridges.made(one("supply " + row[1] + " " + row[0]));
            String what = "MOST " + row[0] + ", VOLTS " + row[1];
            Check.due(what + ": whyNot", bridge.whyNot(), row[2]);
            Check.due(what + ": read", bridge.read(), row[2] == 0 ? 1 : -1 - row[2]);
            Check.due(what + ": readings made", bridge.size(15), row[2] == 0 ? 1 : 0);
            Check.due(what + ": run", Bridges.run(bridge, "read 1;"), row[2] == 0 ? 1 : 0);
            Check.due(what + ": the time", bridge.size(9), row[2] == 0 ? 2 : 0);
        }
        DecadeBridge least = Bridges.made("box 4 0 0 0 0 0;unknown 100000000;supply 199 1");
        Check.due("a current of 1 with MOST 1", least.whyNot(), 0);
        least.setVolts(200);
        Check.due("a current of 2 with MOST 1", least.whyNot(), 2);
        least.setVolts(1);
        Check.due("a current of 0 with VOLTS", least.current() * 10 + least.whyNot(), 0);
        Check.due("a reading by it", least.read(), 1);
    }

    // "then limited to -FULL to FULL"; a box of 0 milliohms deflects by 500000 for each millivolt.
    private static void limits() {
        int[][] rows = {{500000, 500000}, {500001, 500000}, {499999, 499999}, {1, 1}, {9999999, 500000}};
        for (int[] row : rows) {
            DecadeBridge bridge = Bridges.made(one("supply 1 1000000;detector " + row[0] + " 0 0 0"));
            bridge.read();
            Check.due("limited to " + row[0], bridge.reading(0), row[1]);
            bridge.turn();
            bridge.read();
            Check.due("limited to -" + row[0], bridge.reading(0), -row[1]);
            Check.due("the deflection is not limited", bridge.deflection(), -500000);
        }
        DecadeBridge most = Bridges.made(one("supply 20 1000000"));
        most.read();
        Check.due("10000000 is limited to 9999999", most.reading(0), 9999999);
        most.setVolts(19);
        most.read();
        Check.due("9500000 is not", most.reading(0), 9500000);
        most.setVolts(20);
        most.turn();
        most.read();
        Check.due("-10000000 is limited to -9999999", most.reading(0), -9999999);
    }

    // The sum of deflection, ZERO and noise is limited, not one of them.
    private static void limitBehindTheSum() {
        int[][] rows = {{400001, -99999, 400001}, {400000, -99999, 400000}, {400002, -99999, 400001},
            {599999, 99999, 599999}, {599998, 99999, 599998}, {600000, 99999, 599999}};
        for (int[] row : rows) {
            DecadeBridge bridge = Bridges.made(one("supply 1 1000000;detector " + row[0] + " 0 0 " + row[1]));
            bridge.read();
            Check.due("ZERO " + row[1] + " and FULL " + row[0], bridge.reading(0), row[2]);
        }
        int drawn = new Draws(1).around(9999);
        for (int off = -1; off <= 1; off++) {
            int full = 500000 + drawn + off;
            DecadeBridge bridge = Bridges.made(one("supply 1 1000000;detector " + full + " 9999 0 0"));
            bridge.read();
            Check.due("noise and a FULL that is off by " + off, bridge.reading(0), 500000 + drawn + Math.min(off, 0));
        }
    }

    // "A reading is a null if its amount is at most NOISE." With FULL below the deflection it is FULL.
    private static void nulls() {
        int[][] rows = {{1, 0, 0}, {1, 1, 1}, {7, 6, 0}, {7, 7, 1}, {7, 8, 1}, {9999, 9999, 1}, {10000, 9999, 0}};
        for (int[] row : rows) {
            DecadeBridge bridge = Bridges.made(one("supply 100 1000000;detector " + row[0] + " " + row[1] + " 0 0"));
            bridge.read();
            Check.due("a reading of FULL", bridge.reading(0), row[0]);
            Check.due(row[0] + " by a NOISE of " + row[1], bridge.size(16), row[2]);
            bridge.turn();
            bridge.read();
            Check.due("a reading of -FULL", bridge.reading(0), -row[0]);
            Check.due("-" + row[0] + " by a NOISE of " + row[1], bridge.size(16), 2 * row[2]);
        }
        for (int zero = -1; zero <= 1; zero++) {
            DecadeBridge even = Bridges.made(one("supply 1 1000000;detector 9999999 0 0 " + zero));
            even.setTo(10);
            even.read();
            Check.due("a reading of ZERO", even.reading(0), zero);
            Check.due(zero + " without NOISE", even.size(16), zero == 0 ? 1 : 0);
        }
        Draws draws = new Draws(5);
        DecadeBridge noisy = Bridges.made(one("supply 1 1000000;detector 9999999 100 0 60;seed 5"));
        noisy.setTo(10);
        int nulls = 0;
        int others = 0;
        for (int i = 0; i < 60; i++) {
            int due = 60 + draws.around(100);
            draws.next(1);
            noisy.read();
            Check.due("a reading with noise", noisy.reading(0), due);
            nulls += Math.abs(due) <= 100 ? 1 : 0;
            others += Math.abs(due) > 100 ? 1 : 0;
            Check.due("nulls so far", noisy.size(16), nulls);
        }
        Check.due("some are nulls and some are not", nulls > 0 && others > 0 ? 1 : 0, 1);
    }

    // "The latest 10 readings are kept." "from 0, the latest one first; HIDDEN if there are not so many".
    private static void kept() {
        DecadeBridge bridge = Bridges.made(one(""));
        Check.due("no reading", bridge.reading(0), HIDDEN);
        for (int made = 1; made <= 13; made++) {
            bridge.setVolts(made);
            Check.due("kept of " + made, bridge.read(), Math.min(made, 10));
            Check.due("made", bridge.size(15), made);
            for (int i = 0; i < 10; i++) {
                Check.due("reading " + i + " of " + made, bridge.reading(i), i < made ? 500000 * (made - i) : HIDDEN);
            }
            Check.due("reading 10 of " + made, bridge.reading(10), HIDDEN);
        }
        for (int bad : new int[] {Integer.MIN_VALUE, -1, 11, Integer.MAX_VALUE}) {
            Check.due("reading " + bad, bridge.reading(bad), HIDDEN);
        }
    }

    // ---- draws, ZERO, temperatures, energy, time

    // "also if NOISE is 0", "also if DRIFT is 0, or the supply is off": each reading draws twice, each tick of a rest once.
    private static void draws() {
        for (int seed : new int[] {0, 1, 2, 50000, 99998, 99999}) {
            oneSeed(seed, 9999, 999);
            oneSeed(seed, 9999, 0);
            oneSeed(seed, 0, 999);
            oneSeed(seed, 1, 1);
        }
    }

    private static void oneSeed(int seed, int noise, int drift) {
        DecadeBridge bridge = Bridges.made(one("supply 1 1000000;detector 9999999 " + noise + " " + drift + " 0;seed " + seed));
        bridge.setTo(10);
        Draws draws = new Draws(seed);
        int zero = 0;
        for (int i = 0; i < 25; i++) {
            int due = zero + draws.around(noise);
            zero += draws.around(drift);
            bridge.read();
            Check.due("reading " + i + " by seed " + seed, bridge.reading(0), due);
            Check.due("ZERO by seed " + seed, bridge.size(8), zero);
            zero += draws.around(drift);
            zero += draws.around(drift);
            bridge.rest(2);
            Check.due("ZERO behind a rest by seed " + seed, bridge.size(8), zero);
        }
    }

    // "limited to -99999 to 99999"
    private static void zeros() {
        for (int start : new int[] {99999, -99999}) {
            DecadeBridge bridge = Bridges.made(one("supply 1 1000000;detector 9999999 0 999 " + start + ";seed 12"));
            bridge.setTo(10);
            Draws draws = new Draws(12);
            int zero = start;
            int limited = 0;
            int free = 0;
            for (int i = 0; i < 80; i++) {
                int drifted = zero + draws.around(999);
                zero = Math.max(-99999, Math.min(99999, drifted));
                limited += zero != drifted ? 1 : 0;
                free += zero == drifted ? 1 : 0;
                bridge.rest(1);
                Check.due("ZERO from " + start, bridge.size(8), zero);
            }
            Check.due("some of it is limited, some is not", limited > 0 && free > 0 ? 1 : 0, 1);
        }
        for (int start : new int[] {99998, 99999, -99998, -99999}) {
            int seed = seedOf(start > 0 ? 1 : -1);
            DecadeBridge bridge = Bridges.made(one("detector 9999999 0 1 " + start + ";seed " + seed));
            bridge.rest(1);
            Check.due("one step from " + start, bridge.size(8), start > 0 ? 99999 : -99999);
        }
    }

    // A seed whose first drift by a DRIFT of 1 is so.
    private static int seedOf(int drift) {
        int seed = 0;
        while (seed < 1000 && new Draws(seed).around(1) != drift) {
            seed++;
        }
        return seed;
    }

    // "temperature + power * WARMING / 1000 - temperature * COOLING / 100, limited to 0 to 200000"
    private static void heat() {
        // By a current of 1000000 the power is 1000 times the unknown, so a tick warms it by unknown * WARMING.
        int[][] rows = {{4878, 41, 199998}, {2000, 100, 200000}, {1227, 163, 200000}, {20000, 999, 200000}, {1000, 0, 0},
            {1000, 1, 1000}, {1000, 999, 200000}};
        for (int[] row : rows) {
            DecadeBridge bridge = Bridges.made("box 0 0 0 0;unknown " + row[0] + ";supply " + row[0]
                    + " 1000000;warm unknown 0 " + row[1] + " 0;warm box 0 999 0");
            bridge.read();
            Check.due(row[0] + " by a WARMING of " + row[1], bridge.part(false, 5), row[2]);
            Check.due("the box of 0 milliohms stays cold", bridge.part(true, 5), 0);
            bridge.rest(9);
            Check.due("without COOLING it stays", bridge.part(false, 5), row[2]);
        }
        DecadeBridge small = Bridges.made("box 0 0 0 0;unknown 1000;supply 1 1000000;warm unknown 0 999 0");
        small.read();
        Check.due("999 / 1000 of 1 microwatt are nothing", small.part(false, 5), 0);
        small.setVolts(2);
        small.read();
        Check.due("999 * 4 / 1000 are 3", small.part(false, 5), 3);
        cooling();
    }

    private static void cooling() {
        int[][] rows = {{1, 200000, 198000}, {99, 200000, 2000}, {1, 99, 99}, {1, 100, 99}, {1, 199, 198}, {1, 200, 198},
            {50, 1, 1}, {50, 2, 1}, {50, 3, 2}, {99, 1, 1}, {99, 2, 1}, {99, 100, 1}, {99, 101, 2}, {0, 101, 101}};
        for (int[] row : rows) {
            DecadeBridge bridge = heated(row[1], row[0]);
            Check.due("the temperature", bridge.part(false, 5), row[1]);
            bridge.rest(1);
            Check.due(row[1] + " by a COOLING of " + row[0], bridge.part(false, 5), row[2]);
        }
        DecadeBridge both = heated(200000, 99);
        both.read();
        Check.due("it warms and cools in one tick", both.part(false, 5), 200000);
        DecadeBridge cold = Bridges.made("box 0 0 0 0;unknown 1000;warm unknown 0 0 99;warm box 0 0 99");
        Bridges.run(cold, "rest 99;read 9;");
        Check.due("never below 0", cold.part(false, 5) + cold.part(true, 5), 0);
    }

    // A bridge whose unknown has this temperature behind one tick: up to 1000 millivolts the power of 1000 milliohms
    // is VOLTS * VOLTS.
    private static DecadeBridge heated(int temperature, int cooling) {
        for (int volts = 1; volts <= 1000; volts++) {
            int warming = (temperature * 1000 + volts * volts - 1) / (volts * volts);
            if (warming <= 999 && volts * volts * warming / 1000 == temperature) {
                DecadeBridge bridge = Bridges.made(one("supply " + volts + " 1000000;warm unknown 0 " + warming + " "
                        + cooling));
                bridge.read();
                return bridge;
            }
        }
        return new DecadeBridge();
    }

    // "each by the power and the temperatures ahead of the tick"
    private static void aheadOfTheTick() {
        DecadeBridge bridge = Bridges.made("box 2 0 0 0;unknown 3000;supply 1500 1000000;warm unknown 4000 97 7;"
                + "warm box -4000 83 11;leads 100 200 300");
        bridge.setTo(20);
        long[] temperatures = new long[2];
        long energy = 0;
        for (int i = 0; i < 12; i++) {
            long unknown = 3000 * (1000000000 + 4000 * temperatures[0]) / 1000000000;
            long box = 2000 * (1000000000 - 4000 * temperatures[1]) / 1000000000;
            long current = 1500000000L / (unknown + 300 + box);
            long square = i % 4 == 3 ? 0 : current * current / 1000;
            long share = 1000000000 * (unknown + 300) / (unknown + 300 + box);
            if (i % 4 == 3) {
                bridge.rest(1);
            } else {
                bridge.read();
                Check.due("a reading is by the temperatures ahead of its tick", bridge.reading(0),
                        Math.min(9999999, 1500 * (share - 500000000) / 1000));
            }
            energy += square * unknown / 1000000;
            temperatures[0] += square * unknown / 1000000 * 97 / 1000 - temperatures[0] * 7 / 100;
            temperatures[1] += square * box / 1000000 * 83 / 1000 - temperatures[1] * 11 / 100;
            Check.due("the unknown's temperature behind tick " + i, bridge.part(false, 5), temperatures[0]);
            Check.due("the box's temperature behind tick " + i, bridge.part(true, 5), temperatures[1]);
            Check.due("the energy behind tick " + i, bridge.energy(), energy);
        }
        Check.due("both are warm", temperatures[0] > 1000 && temperatures[1] > 1000 ? 1 : 0, 1);
    }

    // "the sum of its powers over all ticks with the supply on"
    private static void energies() {
        DecadeBridge bridge = Bridges.made(one("supply 1000 1000000"));
        Check.due("none at first", bridge.energy(), 0);
        bridge.rest(99);
        Check.due("none by a rest", bridge.energy(), 0);
        bridge.read();
        bridge.read();
        Check.due("two readings", bridge.energy(), 2000000);
        bridge.setVolts(0);
        bridge.read();
        bridge.rest(1);
        Check.due("none by a reading that can't be made", bridge.energy(), 2000000);
        bridge.setVolts(1001);
        bridge.read();
        Check.due("none by a current above MOST", bridge.energy(), 2000000);
        bridge.setVolts(1000);
        Bridges.run(bridge, "read 20;read 20;read 5;");
        Check.due("47 readings", bridge.energy(), 47000000);
        DecadeBridge great = Bridges.made("box 4 0 0 0;unknown 20000;supply 20000 1000000");
        for (int i = 0; i < 3; i++) {
            Bridges.run(great, "repeat 3(repeat 20(read 20;););");
        }
        Check.due("beyond an int", great.energy(), 3L * 60 * 20 * 20000000);
    }

    // "Then the time grows by 1."
    private static void times() {
        DecadeBridge bridge = Bridges.made(one(""));
        Check.due("the time at first", bridge.size(9), 0);
        bridge.read();
        Check.due("a reading is a tick", bridge.size(9), 1);
        Check.due("a rest of 1", bridge.rest(1), 2);
        Check.due("a rest of 99", bridge.rest(99), 101);
        bridge.setTo(10);
        bridge.balance(true);
        Check.due("a turned look is two", bridge.size(9), 103);
        bridge.setArms(1, 1);
        bridge.turn();
        bridge.connect(3);
        bridge.setVolts(1);
        bridge.setDigit(0, 0);
        Check.due("other operations take no time", bridge.size(9), 103);
    }

    // ---- the mean and the spread of the readings that are kept

    private static void means() {
        DecadeBridge bridge = Bridges.made(one(""));
        Check.dueDouble("the mean without any", bridge.meanReading(), 0);
        double sum = 0;
        for (int made = 1; made <= 12; made++) {
            bridge.setVolts(made * made);
            bridge.read();
            sum = 0;
            for (int i = Math.max(1, made - 9); i <= made; i++) {
                sum += Math.min(9999999, 500000L * i * i);
            }
            Check.dueDouble("the mean of " + made, bridge.meanReading(), sum / Math.min(made, 10));
        }
        Check.dueDouble("a mean that is no whole number", third(), -1.0 / 3);
    }

    private static double third() {
        DecadeBridge bridge = Bridges.made(one("supply 1 1000000;detector 1 0 0 0"));
        bridge.read();
        bridge.turn();
        bridge.read();
        bridge.read();
        return bridge.meanReading();
    }

    private static void spreads() {
        DecadeBridge bridge = Bridges.made(one(""));
        Check.dueDouble("the spread without any", bridge.spread(), 0);
        bridge.setVolts(19);
        bridge.read();
        Check.dueDouble("the spread of one", bridge.spread(), 0);
        bridge.setVolts(1);
        for (int made = 2; made <= 10; made++) {
            bridge.read();
            Check.dueDouble("the spread of " + made, bridge.spread(), 9000000);
        }
        bridge.read();
        Check.dueDouble("the first one is no longer kept", bridge.spread(), 0);
        bridge.turn();
        bridge.read();
        Check.dueDouble("the least one is the latest", bridge.spread(), 1000000);
        bridge.turn();
        bridge.setVolts(19);
        bridge.read();
        Check.dueDouble("the greatest one is the latest", bridge.spread(), 10000000);
        bridge.setVolts(3);
        bridge.read();
        Check.dueDouble("both are earlier ones", bridge.spread(), 10000000);
        DecadeBridge odd = Bridges.made(one("supply 20 1000000;detector 8388609 0 0 0"));
        odd.read();
        odd.turn();
        odd.read();
        Check.dueDouble("16777218 is a float", odd.spread(), 16777218f);
        // 17499999 is none: the float beside it stands for it.
        DecadeBridge beside = Bridges.made(one("supply 17 1000000;detector 9000000 0 0 -1"));
        beside.read();
        beside.turn();
        beside.setVolts(20);
        beside.read();
        Check.due("8499999 and -9000000", beside.reading(1) - beside.reading(0), 17499999);
        Check.dueDouble("as a float", beside.spread(), 17500000f);
    }
}
