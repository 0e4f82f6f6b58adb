// Where the sentences of promises 21 to 26 have their boundaries.
public final class ResultsEdgesTest {
    private static final int LEAST = Integer.MIN_VALUE;
    private static final int MOST = Integer.MAX_VALUE;
    // A NOISE as great as FULL: each balance ends by a null at once.
    private static final String AT_ONCE = "unknown 1000;supply 1 1000000;detector 5 5 0 0";

    public static void main(String[] args) {
        indices();
        whats();
        apart();
        manyManners();
        orderOfManners();
        afterTheEarliestHasGone();
        means();
        spreads();
        steadiest();
        steadiestOfSeveral();
        Check.end();
    }

    private static DecadeBridge atOnce() {
        return Bridges.made("box 2 0 0 0;leads 3 5 7;" + AT_ONCE);
    }

    private static void balance(DecadeBridge bridge, int first, int second, int leads) {
        bridge.setArms(first, second);
        bridge.connect(leads);
        Check.due("a null at once", bridge.balance(false), 1);
    }

    // "Throws IndexOutOfBoundsException if there is no such result", "... if there is no such manner".
    private static void indices() {
        DecadeBridge bridge = atOnce();
        int[] arms = {0, 1, 0, 2};
        for (int results = 0; results < 5; results++) {
            int manners = new int[] {0, 1, 2, 2, 3}[results];
            Check.due("results", bridge.size(17), results);
            Check.due("manners", bridge.size(18), manners);
            for (int i = 0; i < results; i++) {
                Check.due("result " + i + " is there", bridge.result(i, 0), arms[i]);
                Check.due("its value is told", bridge.valueOf(i, false), new int[] {1000, 100, 1000, 10}[i]);
            }
            for (int m = 0; m < manners; m++) {
                Check.due("manner " + m + " is there", bridge.manner(m, 0), m);
                Check.due("its spread", bridge.spreadOf(m), 0);
                Check.dueDouble("its mean", bridge.meanOf(m), new int[] {1000, 100, 10}[m] - 8);
            }
            for (int bad : new int[] {LEAST, -1, results, 20, MOST}) {
                Check.dueIndex("result " + bad + " of " + results, () -> bridge.result(bad, 0));
                Check.dueIndex("valueOf " + bad + " of " + results, () -> bridge.valueOf(bad, false));
                Check.dueIndex("corrected valueOf " + bad + " of " + results, () -> bridge.valueOf(bad, true));
            }
            for (int bad : new int[] {LEAST, -1, manners, 20, MOST}) {
                Check.dueIndex("manner " + bad + " of " + manners, () -> bridge.manner(bad, 0));
                Check.dueIndex("meanOf " + bad + " of " + manners, () -> bridge.meanOf(bad));
                Check.dueIndex("spreadOf " + bad + " of " + manners, () -> bridge.spreadOf(bad));
            }
            if (results < 4) {
                balance(bridge, arms[results], 0, 2);
            }
        }
        bridge.undo();
        Check.dueIndex("result 3 undone", () -> bridge.result(3, 0));
        Check.dueIndex("manner 2 undone", () -> bridge.manner(2, 0));
    }

    // "Throws IllegalArgumentException if what is out of range", IndexOutOfBoundsException ahead of it.
    private static void whats() {
        DecadeBridge bridge = atOnce();
        balance(bridge, 1, 2, 3);
        balance(bridge, 1, 2, 3);
        int[] result = {1, 2, 3, 10, 2, 1, 0};
        int[] manner = {1, 2, 3, 2, 0, 1};
        for (int what = 0; what < 7; what++) {
            Check.due("result " + what, bridge.result(1, what), result[what]);
        }
        for (int what = 0; what < 6; what++) {
            Check.due("manner " + what, bridge.manner(0, what), manner[what]);
        }
        for (int bad : new int[] {LEAST, -1, 7, MOST}) {
            Check.dueArgument("result what " + bad, () -> bridge.result(1, bad));
            Check.dueIndex("no result, what " + bad, () -> bridge.result(2, bad));
            Check.dueIndex("result -1, what " + bad, () -> bridge.result(-1, bad));
        }
        for (int bad : new int[] {LEAST, -1, 6, MOST}) {
            Check.dueArgument("manner what " + bad, () -> bridge.manner(0, bad));
            Check.dueIndex("no manner, what " + bad, () -> bridge.manner(1, bad));
            Check.dueIndex("manner -1, what " + bad, () -> bridge.manner(-1, bad));
        }
    }

    // "A manner is a FIRST, a SECOND and leads."
    private static void apart() {
        int[][] rows = {{1, 2, 3}, {0, 2, 3}, {1, 0, 3}, {1, 2, 2}, {2, 1, 3}};
        for (int i = 1; i < rows.length; i++) {
            DecadeBridge bridge = atOnce();
            balance(bridge, 1, 2, 3);
            balance(bridge, 1, 2, 3);
            Check.due("the same manner", bridge.size(18) * 10 + bridge.result(1, 6), 10);
            balance(bridge, rows[i][0], rows[i][1], rows[i][2]);
            Check.due("another manner", bridge.size(18) * 10 + bridge.result(2, 6), 21);
            for (int what = 0; what < 3; what++) {
                Check.due("its " + what, bridge.manner(1, what), rows[i][what]);
            }
        }
        // Volts, the supply's way and the kind of look make no manner.
        DecadeBridge bridge = atOnce();
        balance(bridge, 1, 2, 3);
        bridge.turn();
        bridge.setVolts(2);
        bridge.balance(true);
        Check.due("one manner still", bridge.size(18), 1);
    }

    // 20 results of 20 manners, and of one.
    private static void manyManners() {
        DecadeBridge bridge = atOnce();
        for (int i = 0; i < 20; i++) {
            balance(bridge, i / 2 % 5, i / 10, 2 + i % 2);
            Check.due("manners", bridge.size(18), i + 1);
        }
        for (int i = 0; i < 20; i++) {
            Check.due("the manner of result " + i, bridge.result(i, 6), i);
            Check.due("its earliest result", bridge.manner(i, 4), i);
            Check.due("its latest result", bridge.manner(i, 5), i);
            Check.due("its results", bridge.manner(i, 3), 1);
        }
        Check.dueIndex("manner 20 of 20", () -> bridge.manner(20, 0));
        Check.due("none has two", bridge.steadiest(), -1);
        balance(bridge, 4, 4, 2);
        Check.due("manners of the latest 20", bridge.size(18), 20);
        Check.due("the first one has gone", bridge.manner(0, 2), 3);
        Check.due("the last one has come", bridge.manner(19, 1), 4);
        DecadeBridge one = atOnce();
        for (int i = 0; i < 21; i++) {
            balance(one, 0, 0, 2);
        }
        Check.due("20 results of one manner", one.size(18) * 100 + one.manner(0, 3), 120);
        Check.due("its earliest and its latest", one.manner(0, 4) * 100 + one.manner(0, 5), 19);
    }

    // "numbered from 0 in the order of their earliest results"
    private static void orderOfManners() {
        DecadeBridge bridge = atOnce();
        int[] firsts = {4, 2, 4, 0, 2, 4, 1};
        int[] due = {0, 1, 0, 2, 1, 0, 3};
        for (int first : firsts) {
            balance(bridge, first, 0, 2);
        }
        for (int i = 0; i < 7; i++) {
            Check.due("the manner of result " + i, bridge.result(i, 6), due[i]);
        }
        int[][] manners = {{4, 3, 0, 5}, {2, 2, 1, 4}, {0, 1, 3, 3}, {1, 1, 6, 6}};
        for (int m = 0; m < 4; m++) {
            Check.due("FIRST of manner " + m, bridge.manner(m, 0), manners[m][0]);
            Check.due("results of manner " + m, bridge.manner(m, 3), manners[m][1]);
            Check.due("earliest of manner " + m, bridge.manner(m, 4), manners[m][2]);
            Check.due("latest of manner " + m, bridge.manner(m, 5), manners[m][3]);
        }
    }

    // "The manners are those of the results that are kept"
    private static void afterTheEarliestHasGone() {
        DecadeBridge bridge = atOnce();
        balance(bridge, 3, 0, 2);
        balance(bridge, 1, 0, 2);
        balance(bridge, 3, 0, 2);
        for (int i = 3; i < 20; i++) {
            balance(bridge, 2, 0, 2);
        }
        Check.due("three manners", bridge.size(18) * 10 + bridge.manner(0, 0), 33);
        bridge.balance(false);
        Check.due("its second result is behind the other's", bridge.size(18) * 10 + bridge.manner(0, 0), 31);
        Check.due("so it is manner 1", bridge.manner(1, 0) * 10 + bridge.manner(1, 3), 31);
        bridge.balance(false);
        Check.due("a manner without results has gone", bridge.size(18) * 10 + bridge.manner(0, 0), 23);
        bridge.balance(false);
        Check.due("one manner", bridge.size(18) * 10 + bridge.manner(0, 0), 12);
        Check.dueIndex("no manner 1", () -> bridge.manner(1, 0));
    }

    // Balances that come to several settings: the detector's zero misleads the more, the fewer volts there are.
    private static DecadeBridge misled(int[] volts) {
        DecadeBridge bridge = Bridges.made("box 2 0 0 0;unknown 3700;leads 0 0 0;supply 1 1000000;detector 9999999 0 0 -99999");
        for (int i = 0; i < volts.length; i++) {
            bridge.setVolts(volts[i]);
            Check.due("a result comes", bridge.balance(false) <= 2 ? 1 : 0, 1);
            Check.due("its value", bridge.valueOf(i, true), 100L * setting(volts[i]));
        }
        return bridge;
    }

    // The last setting of 100 whose deflection is above 99999 by so many volts, or the one of 99999.
    private static int setting(int volts) {
        int setting = 0;
        for (int at = 1; at < 100; at++) {
            long share = 1000000000L * 3700 / (3700 + 100 * at);
            if (volts * (share - 500000000) / 1000 >= 99999) {
                setting = at;
            }
        }
        return setting;
    }

    // "the sum of the corrected values of the results of a manner, as a double, divided by their number, as a double"
    private static void means() {
        int[] volts = {1, 2, 4, 8, 1, 2};
        DecadeBridge bridge = misled(volts);
        long sum = 0;
        for (int v : volts) {
            sum += 100L * setting(v);
        }
        Check.dueDouble("the mean of 6", bridge.meanOf(0), (double) sum / 6.0);
        Check.due("they differ", setting(1) < setting(2) && setting(2) < setting(4) && setting(4) < setting(8) ? 1 : 0, 1);
        DecadeBridge three = misled(new int[] {1, 1, 2});
        Check.dueDouble("the mean of 3", three.meanOf(0), (double) (200L * setting(1) + 100L * setting(2)) / 3.0);
        DecadeBridge below = Bridges.made("box 2 0 0 0;leads 99999 99999 0;" + AT_ONCE);
        balance(below, 0, 0, 2);
        balance(below, 0, 0, 3);
        Check.dueDouble("a mean below 0", below.meanOf(0), 1000.0 - 199998);
        Check.dueDouble("another one", below.meanOf(1), 1000.0);
        DecadeBridge great = Bridges.made("box 4 0 0 0 0 0;" + AT_ONCE);
        balance(great, 0, 4, 2);
        balance(great, 0, 4, 2);
        balance(great, 0, 4, 2);
        Check.dueDouble("a mean beyond an int", great.meanOf(0), 100000000000.0);
    }

    // "the greatest corrected value of the results of a manner less the least one"
    private static void spreads() {
        int one = 100 * setting(1);
        int two = 100 * setting(2);
        int eight = 100 * setting(8);
        Check.due("of one result", misled(new int[] {2}).spreadOf(0), 0);
        Check.due("of two that are equal", misled(new int[] {2, 2}).spreadOf(0), 0);
        Check.due("of two", misled(new int[] {1, 8}).spreadOf(0), eight - one);
        Check.due("of two, the greater one first", misled(new int[] {8, 1}).spreadOf(0), eight - one);
        Check.due("of three, the least one amid", misled(new int[] {8, 1, 2}).spreadOf(0), eight - one);
        Check.due("of three, the greatest one amid", misled(new int[] {1, 8, 2}).spreadOf(0), eight - one);
        Check.due("of others", misled(new int[] {1, 2, 1}).spreadOf(0), two - one);
    }

    // "of those that have 2 results or more ...; NONE if there is none"
    private static void steadiest() {
        DecadeBridge bridge = atOnce();
        Check.due("without results", bridge.steadiest(), -1);
        balance(bridge, 0, 0, 2);
        Check.due("one result", bridge.steadiest(), -1);
        balance(bridge, 1, 0, 2);
        Check.due("two results of two manners", bridge.steadiest(), -1);
        balance(bridge, 1, 0, 2);
        Check.due("two results of one manner", bridge.steadiest(), 1);
        bridge.undo();
        Check.due("undone", bridge.steadiest(), -1);
    }

    // "the manner with the least spread ..., of several the lowest one"
    private static void steadiestOfSeveral() {
        steadiest("1 1 2 2", 0);
        steadiest("1 8 2 2", 1);
        steadiest("2 2 1 8", 0);
        steadiest("1 8 1 8", 0);
        steadiest("1 8 1 2", 1);
        steadiest("1 2 1 8", 0);
        steadiest("1 8 1 8 1 2", 2);
        steadiest("1 8 1 2 1 2", 1);
        steadiest("1 8 1 2 2 1 ", 1);
    }

    // Two results for each manner, by so many volts.
    private static void steadiest(String volts, int due) {
        DecadeBridge bridge = Bridges.made("box 2 0 0 0;unknown 3700;supply 1 1000000;detector 9999999 0 0 -99999");
        String[] all = volts.split(" ");
        for (int i = 0; i < all.length; i++) {
            // Equal arms, so that each manner comes to the same settings.
            bridge.setArms(i / 2, i / 2);
            bridge.setVolts(Integer.parseInt(all[i]));
            bridge.balance(false);
            Check.due("its value", bridge.valueOf(i, true), 100L * setting(Integer.parseInt(all[i])));
        }
        Check.due("the steadiest of " + volts, bridge.steadiest(), due);
    }
}
