// Where the sentences of "What would be best" and of promises 27 to 36 have their boundaries.
public final class WouldBeEdgesTest {
    private static final int LEAST = Integer.MIN_VALUE;
    private static final int MOST = Integer.MAX_VALUE;

    public static void main(String[] args) {
        severalBest();
        bestAndIdeal();
        overlapping();
        endsOfTheBox();
        idealNulls();
        withoutVolts();
        whatever();
        better();
        zeroIsBetter();
        asItIsNow();
        bestWith();
        bestArms();
        severalArms();
        apparent();
        foretold();
        foretoldRanges();
        steadyIn();
        cooledIn();
        Check.end();
    }

    // A bridge told again by its sides: the box's settings are steps of LOW behind CONTACT and leads.
    private record World(long volts, long unknownSide, long low, long contact, long first, long second) {
        long deflection(int setting) {
            long box = low * setting + contact;
            long share = 1000000000L * unknownSide / (box + unknownSide);
            return volts * (share - 1000000000L * second / (first + second)) / 1000;
        }

        int best(int settings) {
            int best = 0;
            for (int s = 1; s < settings; s++) {
                if (Math.abs(deflection(s)) < Math.abs(deflection(best))) {
                    best = s;
                }
            }
            return best;
        }

        int nearerThan(long amount, int settings) {
            int number = 0;
            for (int s = 0; s < settings; s++) {
                number += Math.abs(deflection(s)) < amount ? 1 : 0;
            }
            return number;
        }
    }

    // "whose deflection has the least amount ...; of several the lowest one"
    private static void severalBest() {
        // By 1 millivolt 5000 and 5001 deflect by 24 and -24, by 25 and -24, by 24 and -25.
        same(50005000, 24, -24, 5000);
        same(50005100, 25, -24, 5001);
        same(50005190, 25, -24, 5001);
        same(50004900, 24, -25, 5000);
        // Arms of 1000 and 10000000: many settings deflect by nothing, the best one is the first of them.
        DecadeBridge bridge = Bridges.made("box 0 0 0 0 0 0;unknown 50000000;supply 1 1000000");
        bridge.setArms(0, 4);
        World world = new World(1, 50000000, 1, 0, 1000, 10000000);
        int best = world.best(10000);
        Check.due("of many nulls the lowest one", bridge.best(), best);
        Check.due("it is a null", world.deflection(best), 0);
        Check.due("the next one too", world.deflection(best + 1), 0);
        Check.due("the one before is none", world.deflection(best - 1), 1);
        Check.due("the ideal one is another null", bridge.ideal(), 5000);
        Check.due("miss between nulls", bridge.miss(), 0);
    }

    private static void same(int unknown, int lower, int upper, int best) {
        DecadeBridge bridge = Bridges.made("box 4 0 0 0 0 0;unknown " + unknown + ";supply 1 1000000");
        bridge.setTo(5000);
        Check.due(unknown + ": the deflection at 5000", bridge.deflection(), lower);
        bridge.setTo(5001);
        Check.due(unknown + ": the deflection at 5001", bridge.deflection(), upper);
        Check.due(unknown + ": the best setting", bridge.best(), best);
        Check.due(unknown + ": the ideal setting", bridge.ideal(), 5000);
        Check.due(unknown + ": miss", bridge.miss(), lower - Math.min(lower, -upper));
        Check.due(unknown + ": better than 5001", bridge.better(), lower < -upper ? 1 : 0);
        bridge.setTo(5000);
        Check.due(unknown + ": better than 5000", bridge.better(), -upper < lower ? 1 : 0);
        Check.due(unknown + ": the best one by arms of 2 and 2", bridge.bestWith(2, 2), best);
    }

    private static void bestAndIdeal() {
        for (int unknown = 3700; unknown <= 3800; unknown += 5) {
            DecadeBridge bridge = Bridges.made("box 2 0 0 0;unknown " + unknown + ";supply 1000 1000000");
            World world = new World(1000, unknown, 100, 0, 1000, 1000);
            int best = world.best(100);
            int ideal = unknown == 3800 ? 38 : 37;
            Check.due("the best setting for " + unknown, bridge.best(), best);
            Check.due("the ideal setting for " + unknown, bridge.ideal(), ideal);
            Check.due("miss for " + unknown, bridge.miss(),
                    Math.abs(world.deflection(ideal)) - Math.abs(world.deflection(best)));
            Check.due("nothing was set", bridge.size(14) + bridge.size(19) + bridge.size(15), 0);
        }
    }

    // By its decades' errors 099 is 1039 and 100 is 950: the greater setting is not always the greater box.
    private static void overlapping() {
        int lower = 0;
        for (int unknown = 1000; unknown <= 3200; unknown += 37) {
            DecadeBridge bridge = Bridges.made("box 1 0 -50000 50000 50000;unknown " + unknown + ";supply 1000 1000000");
            int best = 0;
            for (int s = 1; s < 1000; s++) {
                if (Math.abs(deflection(unknown, cold(s))) < Math.abs(deflection(unknown, cold(best)))) {
                    best = s;
                }
            }
            int ideal = 0;
            for (int weight = 100; weight > 0; weight /= 10) {
                for (int digit = 1; digit <= 9 && deflection(unknown, cold(ideal + weight)) > 0; digit++) {
                    ideal += weight;
                }
            }
            Check.due("best for " + unknown, bridge.best(), best);
            Check.due("miss for " + unknown, bridge.miss(), Math.abs(deflection(unknown, cold(bridge.ideal())))
                    - Math.abs(deflection(unknown, cold(best))));
            if (deflection(unknown, cold(bridge.ideal())) != 0) {
                Check.due("ideal for " + unknown, bridge.ideal(), ideal);
            }
            lower += best < ideal ? 1 : 0;
        }
        Check.due("some are best at a lower setting", lower > 0 ? 1 : 0, 1);
        DecadeBridge last = Bridges.made("box 2 0 -50000 50000;unknown 2849;supply 1000 1000000");
        // 29 is 1900 + 945, 30 is 2850.
        Check.due("30 is best", last.best(), 30);
        Check.due("29 is ideal", last.ideal(), 29);
    }

    private static long cold(int setting) {
        return (setting / 100 * 950000000L + setting / 10 % 10 * 105000000L + setting % 10 * 10500000L) / 1000000;
    }

    private static long deflection(long unknown, long box) {
        return 1000 * (1000000000L * unknown / (unknown + box) - 500000000) / 1000;
    }

    // The lowest and the highest setting.
    private static void endsOfTheBox() {
        ends("box 3 0 0 0;unknown 1000;supply 100 1000000", 1, 1, 0);
        ends("box 4 0 0 0;unknown 1000;supply 100 1000000", 1, 0, 9090909);
        ends("box 4 0 0 0;unknown 1000;leads 0 0 0;supply 0 1000000", 0, 10, 0);
        ends("box 0 0 0 0;unknown 1000;supply 100 1000000", 99, 99, 0);
        ends("box 0 0 0 0 0;unknown 1000;supply 100 1000000", 999, 999, 0);
        ends("box 0 0 0 0 0 0;unknown 100000000;supply 100 1000000", 9999, 9999, 0);
        ends("box 0 0 0 0 0 0;unknown 9999;supply 100 1000000", 9999, 9999, 0);
        ends("box 0 0 0 0 0 0;unknown 9998;supply 100 1000000", 9998, 9998, 0);
        ends("box 0 1 0 0 0;unknown 1000;supply 100 1000000", 999, 999, 0);
    }

    private static void ends(String setup, int best, int ideal, long miss) {
        DecadeBridge bridge = Bridges.made(setup);
        Check.due("best of " + setup, bridge.best(), best);
        Check.due("ideal of " + setup, bridge.ideal(), ideal);
        Check.due("miss of " + setup, bridge.miss(), miss);
    }

    // "(a null only if it is 0)", whatever NOISE is, and ZERO and FULL count in no look.
    private static void idealNulls() {
        String near = "box 4 0 0 0 0 0;supply 1 1000000;unknown ";
        // By 1 millivolt 5000 deflects by 0 up to 199 beside 50000000, and by 1 or -1 from there on.
        ideal(near + "49999801", 5000);
        ideal(near + "49999799", 4999);
        ideal(near + "50000000", 5000);
        // By arms of 1000 and 10000000 a null at 5000 ends it, though 5001 to 5049 are nulls too; without that null it
        // goes on to the one at 5100.
        idealByFarArms(50000000, 0, 5000);
        idealByFarArms(50500000, 0, 5000);
        idealByFarArms(50510000, 1, 5100);
        ideal("box 2 0 0 0;unknown 1000;supply 1 1000000;detector 1 9999 999 99999", 10);
        ideal("box 2 0 0 0;unknown 1001;supply 1 1000000;detector 1 9999 999 -99999", 10);
        ideal("box 2 1 0 0;unknown 1000;supply 1 1000000;detector 1 9999 999 99999", 9);
        // 2000 and 2100: at 20 it ends, though 2099 would be met by 20 and 0.99.
        ideal("box 2 0 0 0;unknown 2000;supply 1 1000000;detector 1 9999 0 0", 20);
        ideal("box 2 0 0 0;unknown 2099;supply 1 1000000;detector 1 9999 0 0", 20);
        ideal("box 2 0 0 0;unknown 2100;supply 1 1000000;detector 1 9999 0 0", 21);
    }

    private static void idealByFarArms(int unknown, int deflection, int due) {
        DecadeBridge bridge = Bridges.made("box 0 0 0 0 0 0;supply 1 1000000;unknown " + unknown);
        bridge.setArms(0, 4);
        bridge.setTo(5000);
        Check.due("the deflection at 5000 for " + unknown, bridge.deflection(), deflection);
        Check.due("ideal for " + unknown, bridge.ideal(), due);
    }

    private static void ideal(String setup, int due) {
        DecadeBridge bridge = Bridges.made(setup);
        Check.due("ideal of " + setup, bridge.ideal(), due);
        bridge.turn();
        Check.due("\"with the supply not turned\": " + setup, bridge.ideal(), due);
        Check.due("the supply stays", bridge.size(12), 1);
        Check.due("\"without ticks\"", bridge.size(9), 0);
    }

    private static void withoutVolts() {
        int[] ideals = {10, 100, 1000};
        String[] errors = {" 0 0", " 0 0 0", " 0 0 0 0"};
        for (int i = 0; i < 3; i++) {
            DecadeBridge bridge = Bridges.made("box 0 0" + errors[i] + ";unknown 1234;supply 0 1000000");
            Check.due("all are equal, the lowest one is best", bridge.best(), 0);
            Check.due("the first look is 0", bridge.ideal(), ideals[i]);
            Check.due("miss", bridge.miss(), 0);
            Check.due("better", bridge.better(), 0);
            Check.due("bestWith", bridge.bestWith(4, 0), 0);
            bridge.setVolts(1);
            Check.due("1 millivolt is enough", bridge.best() > 0 ? 1 : 0, 1);
        }
    }

    // "and whatever the current is"
    private static void whatever() {
        DecadeBridge bridge = Bridges.made("box 2 0 0 0;unknown 3742;supply 1000 1");
        Check.due("no reading can be made", bridge.whyNot(), 2);
        Check.due("ideal", bridge.ideal(), 37);
        Check.due("best", bridge.best(), 37);
        Check.due("bestWith", bridge.bestWith(1, 1), 37);
        Check.due("apparent", bridge.apparent(2), 3700);
    }

    // "how many settings have a deflection of less amount than the present setting"
    private static void better() {
        DecadeBridge bridge = Bridges.made("box 2 0 0 0;unknown 3742;supply 1000 1000000");
        World world = new World(1000, 3742, 100, 0, 1000, 1000);
        for (int s = 0; s < 100; s += 3) {
            bridge.setTo(s);
            Check.due("better than " + s, bridge.better(), world.nearerThan(Math.abs(world.deflection(s)), 100));
            Check.due("the setting stays", bridge.size(14), s);
        }
        bridge.setTo(37);
        Check.due("none is better than the best", bridge.better(), 0);
        bridge.setTo(0);
        Check.due("99 are better than 0", bridge.better(), 99);
        // Those of an equal amount are not better.
        DecadeBridge equal = Bridges.made("box 0 0 0 0 0 0;unknown 50000000;supply 1 1000000");
        equal.setArms(0, 4);
        World many = new World(1, 50000000, 1, 0, 1000, 10000000);
        for (int s : new int[] {0, 4900, 4949, 4951, 5000, 5049, 5050, 5051, 5100, 9999}) {
            equal.setTo(s);
            Check.due("better than " + s + " of many", equal.better(),
                    many.nearerThan(Math.abs(many.deflection(s)), 10000));
        }
    }

    // Setting 0 may be the better one: by arms of 1000 and 10000000 it is better than all others.
    private static void zeroIsBetter() {
        DecadeBridge bridge = Bridges.made("box 2 0 0 0;unknown 1000;supply 1000 1000000");
        bridge.setArms(0, 4);
        Check.due("0 is best", bridge.best(), 0);
        for (int s : new int[] {0, 1, 2, 99}) {
            bridge.setTo(s);
            Check.due("better than " + s, bridge.better(), s);
        }
    }

    private interface Question {
        long of(DecadeBridge bridge);
    }

    // "all else being as it is now": each question behind each change, whatever was asked before.
    private static void asItIsNow() {
        Question[] questions = {b -> b.best(), b -> b.ideal(), b -> b.miss(), b -> b.better(), b -> b.bestWith(2, 1),
            b -> b.bestArms(), b -> b.apparent(2), b -> b.apparent(3), b -> b.foretold(40, 0), b -> b.foretold(40, 1),
            b -> b.foretold(7, 2), b -> b.steadyIn(), b -> b.cooledIn()};
        Question[] changes = {b -> b.setArms(1, 0), b -> b.setVolts(0), b -> b.setVolts(3), b -> b.setTo(77), b -> b.turn(),
            b -> b.connect(3), b -> Bridges.run(b, "read 20;"), b -> b.rest(50), b -> b.balance(false), b -> b.undo(),
            b -> Bridges.load(b, "box 1 0 9000 -9000;unknown 1234;leads 60 70 80;warm unknown 500 60 70")};
        for (int q = 0; q < questions.length; q++) {
            for (int c = 0; c < changes.length; c++) {
                DecadeBridge asked = warmed();
                for (Question question : questions) {
                    question.of(asked);
                }
                changes[c].of(asked);
                DecadeBridge anew = warmed();
                changes[c].of(anew);
                Check.due("question " + q + " behind change " + c, questions[q].of(asked), questions[q].of(anew));
            }
        }
    }

    private static DecadeBridge warmed() {
        DecadeBridge bridge = Bridges.made("box 2 0 300 -400;unknown 3782;leads 200 90 5;supply 1000 1000000;"
                + "warm unknown 3000 7 3;warm box -3000 50 2");
        bridge.setTo(25);
        bridge.read();
        bridge.setTo(50);
        return bridge;
    }

    private static void bestWith() {
        DecadeBridge bridge = Bridges.made("box 2 7 0 0;unknown 3742;supply 1000 1000000;leads 30 20 10;ratio 3 50000");
        for (int leads = 2; leads <= 3; leads++) {
            bridge.connect(leads);
            long side = leads == 2 ? 3792 : 3772;
            long contact = leads == 2 ? 7 : 27;
            for (int first = 0; first < 5; first++) {
                for (int second = 0; second < 5; second++) {
                    World world = new World(1000, side, 100, contact, bridge.ratio(first, 2), bridge.ratio(second, 2));
                    Check.due("bestWith " + first + " " + second, bridge.bestWith(first, second), world.best(100));
                }
            }
        }
        Check.due("the arms stay", bridge.size(10) + bridge.size(11), 0);
        for (int bad : new int[] {LEAST, -1, 5, MOST}) {
            Check.dueIndex("bestWith first " + bad, () -> bridge.bestWith(bad, 0));
            Check.dueIndex("bestWith second " + bad, () -> bridge.bestWith(4, bad));
            Check.dueIndex("bestWith both " + bad, () -> bridge.bestWith(bad, bad));
        }
    }

    // "by whose best setting the corrected value differs least from the warm value of the unknown"
    private static void bestArms() {
        arms("box 2 7 0 0;unknown 3742;supply 20000 1000000;leads 30 20 10;ratio 0 50000;ratio 1 -300", 2, 0);
        arms("box 2 7 0 0;unknown 3742;supply 20000 1000000;leads 30 20 10;ratio 0 50000;ratio 1 -300", 3, 0);
        arms("box 0 0 0 0;unknown 90123;supply 20000 1000000;leads 1 2 3;ratio 2 777", 2, 0);
        arms("box 4 0 0 0;unknown 1234;supply 20000 1000000;leads 1 2 3;ratio 2 -777", 3, 0);
        arms("box 3 1 0 0;unknown 50000;supply 20000 1000000;warm unknown 4000 99 0;leads 500 900 1", 2, 3);
        arms("box 3 1 0 0;unknown 50000;supply 20000 1000000;warm unknown -4000 99 0;leads 500 900 1", 3, 3);
    }

    private static void arms(String setup, int leads, int readings) {
        DecadeBridge bridge = Bridges.made(setup);
        bridge.connect(leads);
        for (int i = 0; i < readings; i++) {
            bridge.read();
        }
        long warm = bridge.part(false, 1);
        Check.due("the unknown is warm", warm != bridge.part(false, 0) ? 1 : 0, readings > 0 ? 1 : 0);
        int due = -1;
        long least = Long.MAX_VALUE;
        for (int first = 0; first < 5; first++) {
            for (int second = 0; second < 5; second++) {
                long a = bridge.ratio(first, 2);
                long b = bridge.ratio(second, 2);
                long side = warm + bridge.lead(0) + (leads == 2 ? bridge.lead(1) : 0);
                long behind = bridge.size(2) + (leads == 3 ? bridge.lead(1) : 0);
                World world = new World(bridge.size(3), side, bridge.size(1), behind, a, b);
                long cold = (long) bridge.size(1) * world.best(100) + behind;
                long corrected = cold * b / a - bridge.lead(0) - (leads == 2 ? bridge.lead(1) : 0);
                if (Math.abs(corrected - warm) < least) {
                    least = Math.abs(corrected - warm);
                    due = 10 * first + second;
                }
            }
        }
        Check.due("bestArms of " + setup + " with " + leads, bridge.bestArms(), due);
        Check.due("the arms stay", bridge.size(10) + bridge.size(11), 0);
        Check.due("the setting stays", bridge.size(14), 0);
    }

    // "of several the least such number"
    private static void severalArms() {
        Check.due("all equal arms are as good", Bridges.made("box 2 0 0 0;unknown 3700;supply 20000 1000000").bestArms(), 0);
        Check.due("without volts and CONTACT all are as good",
                Bridges.made("box 2 0 0 0;unknown 3700;supply 0 1000000").bestArms(), 0);
        // Setting 0 and a CONTACT of 999: 0 4 makes it 9990000, 4 0 nothing; 1 0 to 4 0 and so on are 4000 - 99 off.
        Check.due("without volts the CONTACT decides",
                Bridges.made("box 2 999 0 0;unknown 1000;supply 0 1000000").bestArms(), 0);
        Check.due("99 times 10 is nearest to 1000",
                Bridges.made("box 2 99 0 0;unknown 1000;supply 0 1000000").bestArms(), 1);
        Check.due("999 times 100 is nearest to 99000",
                Bridges.made("box 2 999 0 0;unknown 99000;supply 0 1000000").bestArms(), 2);
        Check.due("999 times 10000 is nearest to 99000000",
                Bridges.made("box 2 999 0 0;unknown 99000000;supply 0 1000000").bestArms(), 4);
        Check.due("kind 0 has an error, kind 1 has none: 11 is as good as 00",
                Bridges.made("box 2 0 0 0;unknown 3700;supply 20000 1000000;ratio 0 50000").bestArms(), 0);
    }

    // "2 or 3": "the cold value of the best setting then * value of SECOND / value of FIRST"
    private static void apparent() {
        DecadeBridge bridge = Bridges.made("box 2 0 0 0;unknown 3700;leads 200 300 900;supply 20000 1000000;ratio 0 1000");
        Check.due("two leads", bridge.apparent(2), 4200);
        Check.due("three leads", bridge.apparent(3), 3600);
        bridge.connect(3);
        Check.due("two leads, though three are in use", bridge.apparent(2), 4200);
        Check.due("three leads in use", bridge.apparent(3), 3600);
        Check.due("the leads stay", bridge.size(13), 3);
        bridge.setArms(0, 1);
        World world = new World(20000, 4200, 100, 0, 1001, 10000);
        Check.due("by other arms", bridge.apparent(2), 100L * world.best(100) * 10000 / 1001);
        bridge.setArms(4, 0);
        Check.due("by the farthest arms", bridge.apparent(2), 9900L * 1001 / 10000000);
        bridge.setArms(0, 4);
        Check.due("no setting is as near as 0", bridge.apparent(2), 0);
        for (int bad : new int[] {LEAST, -1, 0, 1, 4, MOST}) {
            Check.dueArgument("apparent " + bad, () -> bridge.apparent(bad));
        }
        DecadeBridge warm = Bridges.made("box 2 0 0 0;unknown 3700;supply 3700 1000000;warm box 4000 999 0;"
                + "warm unknown 4000 0 0");
        warm.setTo(99);
        warm.read();
        long factor = 1000000000L + 4000L * warm.part(true, 5);
        int best = 0;
        for (int s = 1; s < 100; s++) {
            long box = 100 * s * factor / 1000000000L;
            long before = 100L * best * factor / 1000000000L;
            best = Math.abs(share(3700, box)) < Math.abs(share(3700, before)) ? s : best;
        }
        Check.due("a warm box: its cold value is told", warm.apparent(2), 100L * best);
        Check.due("which is less", best < 37 ? 1 : 0, 1);
    }

    private static long share(long unknown, long box) {
        return 3700 * (1000000000L * unknown / (unknown + box) - 500000000) / 1000;
    }

    // ---- ticks that would be

    private static final String WARM = "box 2 0 0 0;unknown 3700;supply 1000 1000000;warm unknown 4000 7 3;"
            + "warm box -3000 5 9;detector 9999999 500 500 0";

    private static void foretold() {
        DecadeBridge bridge = Bridges.made(WARM);
        bridge.setTo(25);
        Check.due("behind 0 ticks, the unknown", bridge.foretold(0, 0), 0);
        Check.due("behind 0 ticks, the box", bridge.foretold(0, 1), 0);
        Check.due("behind 0 ticks, the deflection", bridge.foretold(0, 2), bridge.deflection());
        DecadeBridge twin = Bridges.made(WARM);
        twin.setTo(25);
        for (int ticks = 1; ticks <= 300; ticks++) {
            twin.read();
            if (ticks < 4 || ticks > 297 || ticks % 50 == 0) {
                Check.due("the unknown behind " + ticks, bridge.foretold(ticks, 0), twin.part(false, 5));
                Check.due("the box behind " + ticks, bridge.foretold(ticks, 1), twin.part(true, 5));
                Check.due("the deflection behind " + ticks, bridge.foretold(ticks, 2), twin.deflection());
            }
        }
        bridge.turn();
        Check.due("the deflection, turned", bridge.foretold(300, 2), -twin.deflection());
        Check.due("nothing has changed", bridge.size(9) + bridge.part(false, 5) + bridge.size(8), 0);
        DecadeBridge blocked = Bridges.made("box 2 0 0 0;unknown 1000;supply 1000 1;warm unknown 0 10 0");
        Check.due("whether a reading can be made or not", blocked.foretold(1, 0), 10000);
        Check.due("20 ticks", blocked.foretold(20, 0), 200000);
        Check.due("19 ticks", blocked.foretold(19, 0), 190000);
        Check.due("21 ticks", blocked.foretold(21, 0), 200000);
        blocked.setVolts(0);
        Check.due("without volts", blocked.foretold(300, 0), 0);
        Check.due("the deflection without volts", blocked.foretold(300, 2), 0);
    }

    private static void foretoldRanges() {
        DecadeBridge bridge = Bridges.made(WARM);
        for (int what = 0; what < 3; what++) {
            int which = what;
            Check.due("300 ticks answer", bridge.foretold(300, which) > LEAST ? 1 : 0, 1);
            for (int bad : new int[] {LEAST, -1, 301, MOST}) {
                Check.dueArgument("foretold ticks " + bad, () -> bridge.foretold(bad, which));
            }
        }
        for (int bad : new int[] {LEAST, -1, 3, MOST}) {
            Check.dueArgument("foretold what " + bad, () -> bridge.foretold(0, bad));
            Check.dueArgument("foretold what " + bad, () -> bridge.foretold(300, bad));
            Check.dueArgument("foretold ticks and what " + bad, () -> bridge.foretold(-1, bad));
        }
    }

    // "behind how many ticks, 0 to 300 ... one more such tick changes neither temperature, for the first time"
    private static void steadyIn() {
        DecadeBridge cold = Bridges.made("box 2 0 0 0;unknown 1000");
        Check.due("at once without WARMING", cold.steadyIn(), 0);
        // 665856 microwatts by a WARMING of 1 are 665 a tick: 301 ticks to 200000.
        DecadeBridge slow = Bridges.made("box 2 0 0 0;unknown 1000;supply 816 1000000;warm unknown 0 1 0");
        Check.due("301 ticks are not within 300", slow.steadyIn(), -1);
        slow.read();
        Check.due("300 are", slow.steadyIn(), 300);
        slow.read();
        Check.due("299 are", slow.steadyIn(), 299);
        Bridges.run(slow, "repeat 15(read 20;);");
        Check.due("steady", slow.steadyIn(), 0);
        Check.due("as hot as can be", slow.part(false, 5), 200000);
        // Both parts count: the box alone still warms up.
        DecadeBridge box = Bridges.made("box 2 0 0 0;unknown 1000;supply 1000 1000000;warm box 0 10 0");
        box.setTo(10);
        // 500000 microamperes: 250000 microwatts are 2500 a tick, 80 ticks.
        Check.due("the box", box.steadyIn(), 80);
        DecadeBridge both = Bridges.made("box 2 0 0 0;unknown 1000;supply 1000 1000000;warm box 0 10 0;warm unknown 0 20 0");
        both.setTo(10);
        Check.due("the slower one counts", both.steadyIn(), 80);
        DecadeBridge other = Bridges.made("box 2 0 0 0;unknown 1000;supply 1000 1000000;warm box 0 20 0;warm unknown 0 10 0");
        other.setTo(10);
        Check.due("whichever it is", other.steadyIn(), 80);
        other.setVolts(0);
        Check.due("without volts nothing warms", other.steadyIn(), 0);
        // Without volts a warm part cools also with the supply on.
        DecadeBridge cooling = Bridges.made("box 2 0 0 0;unknown 1000;supply 1000 1;warm unknown 0 1 50");
        Check.due("1000 1500 1750 1875 1938 1969 1985 1993 1997 1999 2000: whether a reading can be made or not",
                cooling.steadyIn(), 11);
    }

    private static void cooledIn() {
        // From 200000 by a COOLING of 3 it takes 305 ticks until 3 / 100 of 33 are nothing.
        DecadeBridge hot = Bridges.made("box 2 0 0 0;unknown 1000;warm unknown 0 999 3");
        Check.due("cold", hot.cooledIn(), 0);
        hot.read();
        Check.due("hot", hot.part(false, 5), 200000);
        Check.due("305 ticks are not within 300", hot.cooledIn(), -1);
        hot.rest(4);
        Check.due("301 are not", hot.cooledIn(), -1);
        hot.rest(1);
        Check.due("300 are", hot.cooledIn(), 300);
        hot.rest(1);
        Check.due("299 are", hot.cooledIn(), 299);
        hot.rest(99);
        hot.rest(99);
        hot.rest(99);
        Check.due("2 more", hot.cooledIn(), 2);
        Check.due("nothing has passed", hot.size(9), 304);
        hot.rest(2);
        Check.due("cooled", hot.cooledIn(), 0);
        Check.due("33 stay", hot.part(false, 5), 33);
        DecadeBridge none = Bridges.made("box 2 0 0 0;unknown 1000;warm unknown 0 999 0");
        none.read();
        Check.due("without COOLING", none.cooledIn(), 0);
        DecadeBridge box = Bridges.made("box 2 0 0 0;unknown 1000;warm box 0 999 50");
        box.setTo(10);
        box.read();
        // 249750 of warmth are limited to 200000: 100000 50000 25000 12500 6250 3125 1563 782 391 196 98 49 25 13 7 4 2 1
        Check.due("the box", box.part(true, 5), 200000);
        Check.due("the box cools", box.cooledIn(), 18);
        DecadeBridge both = Bridges.made("box 2 0 0 0;unknown 1000;warm box 0 999 50;warm unknown 0 999 99");
        both.setTo(10);
        both.read();
        // 200000 2000 20 1
        Check.due("the slower one counts", both.cooledIn(), 18);
        DecadeBridge other = Bridges.made("box 2 0 0 0;unknown 1000;warm box 0 999 99;warm unknown 0 999 50");
        other.setTo(10);
        other.read();
        Check.due("whichever it is", other.cooledIn(), 18);
    }
}
