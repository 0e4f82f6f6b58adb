// Where the sentences of "Balance" and of promise 45 have their boundaries.
public final class BalanceEdgesTest {
    public static void main(String[] args) {
        volts();
        singleLooks();
        looksOfNoise();
        turnedLooks();
        roundedLooks();
        suppliesTurned();
        nines();
        zeros();
        aheadOfFirstLook();
        aheadOfLaterLook();
        secondReadings();
        allDigitsFirst();
        toldValues();
        correctedValues();
        warmResults();
        latestTwenty();
        Check.end();
    }

    // What a balance is to come to: how it ended, the setting, the readings that it made.
    private static void due(String what, DecadeBridge bridge, boolean turned, int how, int setting, int readings) {
        int made = bridge.size(15);
        int time = bridge.size(9);
        int results = bridge.size(17);
        int supply = bridge.size(12);
        int undoable = bridge.size(19);
        Check.due(what, bridge.balance(turned), how);
        Check.due(what + ": the setting", bridge.size(14), setting);
        Check.due(what + ": its readings", bridge.size(15) - made, readings);
        Check.due(what + ": its time", bridge.size(9) - time, readings);
        Check.due(what + ": its result", bridge.size(17) - results, how <= 2 ? 1 : 0);
        Check.due(what + ": the supply is as it was", bridge.size(12), supply);
        Check.due(what + ": it is recorded", bridge.size(19), Math.min(8, undoable + 1));
        if (how <= 2) {
            Check.due(what + ": the result's setting", bridge.result(results, 3), setting);
            Check.due(what + ": the result's time", bridge.result(results, 4), time + readings);
            Check.due(what + ": how the result ended", bridge.result(results, 5), how);
        }
    }

    private static DecadeBridge made(String setup) {
        return Bridges.made(setup);
    }

    // "-2 if VOLTS is 0"
    private static void volts() {
        DecadeBridge bridge = made("box 2 0 0 0;unknown 1000;supply 0 1000000");
        bridge.setTo(55);
        for (int i = 0; i < 2; i++) {
            Check.due("VOLTS 0", bridge.balance(i == 1), -2);
            Check.due("the digits stay", bridge.size(14), 55);
            Check.due("nothing is recorded", bridge.size(19), 1);
            Check.due("no reading", bridge.size(15) + bridge.size(9), 0);
        }
        bridge.setVolts(1);
        due("VOLTS 1", bridge, false, 1, 10, 1);
        DecadeBridge blocked = made("box 2 0 0 0;unknown 1000;supply 0 1");
        Check.due("VOLTS 0 and the least MOST", blocked.balance(false), -2);
        blocked.setVolts(1);
        due("VOLTS 1 and the least MOST", blocked, false, 5, 10, 0);
    }

    // 1000 milliohms against 10 * 100: the first look is ZERO, with the supply turned too.
    private static void singleLooks() {
        String even = "box 2 0 0 0;unknown 1000;supply 1 1000000;detector 9999999 0 0 ";
        due("a look of 0", made(even + "0"), false, 1, 10, 1);
        due("a look of 1: too small; 20 is too great, and 11", made(even + "1"), false, 2, 10, 3);
        due("a look of -1: too great; all to 09 are too small", made(even + "-1"), false, 2, 9, 10);
        DecadeBridge turned = made(even + "0");
        turned.turn();
        due("turned, a look of 0", turned, false, 1, 10, 1);
        turned = made(even + "1");
        turned.turn();
        due("turned, a look of 1: too great", turned, false, 2, 9, 10);
        turned = made(even + "-1");
        turned.turn();
        due("turned, a look of -1: too small", turned, false, 2, 10, 3);
    }

    // "A look is a null if its amount is at most NOISE", be it above or below 0: FULL is the look's amount.
    private static void looksOfNoise() {
        String small = "box 2 0 0 0;unknown 5500;supply 100 1000000;detector ";
        due("a look of 7 by a NOISE of 7", made(small + "7 7 0 0"), false, 1, 10, 1);
        due("a look of 7 by a NOISE of 8", made(small + "7 8 0 0"), false, 1, 10, 1);
        due("a look of 7 by a NOISE of 6", made(small + "7 6 0 0"), false, 1, 55, 11);
        String great = "box 4 0 0 0;unknown 1000;supply 100 1000000;detector ";
        due("a look of -7 by a NOISE of 7", made(great + "7 7 0 0"), false, 1, 10, 1);
        due("a look of -7 by a NOISE of 6", made(great + "7 6 0 0"), false, 4, 0, 2);
        DecadeBridge turned = made(great + "7 7 0 0");
        turned.turn();
        due("turned, a look of 7 by a NOISE of 7", turned, false, 1, 10, 1);
        turned = made(great + "7 6 0 0");
        turned.turn();
        due("turned, a look of 7 by a NOISE of 6", turned, false, 4, 0, 2);
        due("a turned look of 7 by a NOISE of 7", made(small + "7 7 0 0"), true, 1, 10, 2);
        due("a turned look of 7 by a NOISE of 6", made(small + "7 6 0 0"), true, 1, 55, 22);
        due("a turned look of -7 by a NOISE of 7", made(great + "7 7 0 0"), true, 1, 10, 2);
        due("a turned look of -7 by a NOISE of 6", made(great + "7 6 0 0"), true, 4, 0, 4);
    }

    // "A turned look is two readings: one, then one with the supply turned the other way".
    private static void turnedLooks() {
        String even = "box 2 0 0 0;unknown 1000;supply 1 1000000;detector 9999999 0 0 ";
        for (int zero : new int[] {-99999, -1, 0, 1, 99999}) {
            DecadeBridge bridge = made(even + zero);
            due("ZERO " + zero + " is taken out", bridge, true, 1, 10, 2);
            Check.due("both readings are ZERO", bridge.reading(0) + bridge.reading(1), 2 * zero);
            bridge.turn();
            due("ZERO " + zero + " is taken out, turned", bridge, true, 1, 10, 2);
        }
        DecadeBridge first = made("box 2 0 0 0;unknown 2000;supply 1 1000000;detector 9999999 0 0 5");
        due("the first look tells that the box is too small", first, true, 1, 20, 4);
        Check.due("a reading", first.reading(3), 166666 + 5);
        Check.due("and one with the supply turned", first.reading(2), -166666 + 5);
        first.turn();
        due("the same, turned", first, true, 1, 20, 4);
        Check.due("a reading with the supply turned", first.reading(3), -166666 + 5);
        Check.due("and one turned back", first.reading(2), 166666 + 5);
    }

    // "(the first - the second) / 2", rounded towards zero: with a FULL of 1 the readings are -1, 0 or 1, and a box of
    // 1001 against 1000 deflects by -249, one of 1000 against 1001 by 249.
    private static void roundedLooks() {
        String great = "box 2 1 0 0;unknown 1000;supply 1 1000000;detector 1 0 0 ";
        due("-1 and 0 are a look of 0", made(great + "-249"), true, 1, 10, 2);
        due("-1 and 1 are a look of -1", made(great + "-248"), true, 2, 9, 20);
        due("-1 and -1 are a look of 0", made(great + "-250"), true, 1, 10, 2);
        due("0 and 1 are a look of 0", made(great + "249"), true, 1, 10, 2);
        due("1 and 1 are a look of 0", made(great + "250"), true, 1, 10, 2);
        String small = "box 2 0 0 0;unknown 1001;supply 1 1000000;detector 1 0 0 ";
        due("1 and 0 are a look of 0", made(small + "249"), true, 1, 10, 2);
        due("1 and -1 are a look of 1", made(small + "248"), true, 2, 10, 6);
        due("0 and -1 are a look of 0", made(small + "-249"), true, 1, 10, 2);
        DecadeBridge turned = made(small + "248");
        turned.turn();
        due("turned, -1 and 1 are a look of -1: too small", turned, true, 2, 10, 6);
        // By a NOISE of 0 the look of 3 and 0 is 1, no null; by the FULL of 3 and ZERO as great as the deflection.
        String three = "box 2 0 0 0;unknown 1001;supply 1 1000000;detector 3 0 0 249";
        due("3 and 0 are a look of 1", made(three), true, 2, 10, 6);
    }

    // "(as it was ahead of the look)": with the supply turned the balance comes to the same.
    private static void suppliesTurned() {
        String setup = "box 2 0 0 0 0;unknown 34567;supply 1000 1000000";
        for (int i = 0; i < 4; i++) {
            DecadeBridge bridge = made(setup);
            if (i % 2 == 1) {
                bridge.turn();
            }
            // 1 to 4, then 31 to 35, then 341 to 346.
            due("345 with looks of kind " + i, bridge, i > 1, 2, 345, i > 1 ? 30 : 15);
        }
    }

    // "as long as its digit is less than 9"; "3 with all digits 9 ... both behind the last decade"
    private static void nines() {
        String box = "box 2 0 0 0;supply 100 1000000;unknown ";
        due("98 is a null", made(box + "9800"), false, 1, 98, 17);
        due("99 is too great", made(box + "9899"), false, 2, 98, 18);
        due("99 is a null", made(box + "9900"), false, 1, 99, 18);
        due("99 is too small", made(box + "9901"), false, 3, 99, 18);
        due("99 is far too small", made(box + "100000000"), false, 3, 99, 18);
        due("99 is too small, turned", made(box + "9901"), true, 3, 99, 36);
        due("90 is a null", made(box + "9000"), false, 1, 90, 9);
        due("90 is too great", made(box + "8999"), false, 2, 89, 18);
        due("a nine that is not the last digit", made(box + "9150"), false, 2, 91, 11);
        due("89 is too small", made(box + "8950"), false, 2, 89, 18);
        due("79 is too small", made(box + "7999"), false, 2, 79, 17);
        String four = "box 0 0 0 0 0 0;supply 1000 1000000;unknown ";
        due("9999 is a null", made(four + "9999"), false, 1, 9999, 36);
        due("9998 is a null", made(four + "9998"), false, 1, 9998, 35);
        due("9999 is too small", made(four + "10001"), false, 3, 9999, 36);
    }

    // "4 with all digits 0"; one of the lowest decade is 1000.
    private static void zeros() {
        due("01 is a null", made("box 3 0 0 0;unknown 1000;supply 100 1000000"), false, 1, 1, 2);
        due("01 is too great", made("box 3 1 0 0;unknown 1000;supply 100 1000000"), false, 4, 0, 2);
        due("01 is too small, 02 too great", made("box 3 0 0 0;unknown 1001;supply 100 1000000"), false, 2, 1, 3);
        due("001 is too great", made("box 3 1 0 0 0;unknown 1000;supply 100 1000000"), false, 4, 0, 3);
        due("0001 is too great", made("box 3 1 0 0 0 0;unknown 1000;supply 100 1000000"), false, 4, 0, 4);
        due("0001 is too great, turned", made("box 3 1 0 0 0 0;unknown 1000;supply 100 1000000"), true, 4, 0, 8);
        due("0010 is a null", made("box 2 0 0 0 0 0;unknown 1000;supply 100 1000000"), false, 1, 10, 3);
    }

    // "ahead of a look whose first reading cannot be made (the digit stays as it is then)"
    private static void aheadOfFirstLook() {
        // 1000 and 1000 milliohms: 1 millivolt makes 500 microamperes.
        String even = "box 2 0 0 0;unknown 1000;supply 20 ";
        due("a current of MOST", made(even + "10000"), false, 1, 10, 1);
        due("a current above MOST", made(even + "9999"), false, 5, 10, 0);
        due("a current of MOST, turned", made(even + "10000"), true, 1, 10, 2);
        due("a current above MOST, turned", made(even + "9999"), true, 5, 10, 0);
        due("with three decades", made("box 1 0 0 0 0;unknown 1000;supply 20 9999"), false, 5, 100, 0);
        due("with four decades", made("box 0 0 0 0 0 0;unknown 1000;supply 20 9999"), false, 5, 1000, 0);
        // Digit 1 of decade 0 is too great; behind it the box is smaller, and the current above MOST.
        String later = "box 3 0 0 0;unknown 3000;supply 13 ";
        due("the current ahead of the second look is MOST", made(later + "3250"), false, 1, 3, 4);
        due("it is above MOST", made(later + "3249"), false, 5, 1, 1);
        due("it is above MOST, turned", made(later + "3249"), true, 5, 1, 2);
        due("both are above MOST", made(later + "999"), false, 5, 10, 0);
        due("the first is MOST", made(later + "1000"), false, 5, 1, 1);
    }

    // The unknown falls while it warms up: the current comes above MOST within one decade.
    private static void aheadOfLaterLook() {
        // 5000 and 1000 make 333333; behind that reading the unknown is 1000, and with 2000 and 1100 of the box 666666
        // and 952380.
        String falling = "box 2 0 0 0;unknown 5000;warm unknown -4000 999 0;supply 2000 ";
        due("MOST is less than at 10", made(falling + "333332"), false, 5, 10, 0);
        due("MOST is as at 10", made(falling + "333333"), false, 5, 20, 1);
        due("MOST is less than at 20", made(falling + "666665"), false, 5, 20, 1);
        due("MOST is as at 20", made(falling + "666666"), false, 5, 11, 2);
        due("MOST is less than at 11", made(falling + "952379"), false, 5, 11, 2);
        due("MOST is as at 11", made(falling + "952380"), false, 2, 10, 3);
    }

    // "(if only the second reading of a turned look cannot be made, the look is the first one alone)"
    private static void secondReadings() {
        // Behind the first reading 1000 and 1000 make 1000000, so that by a MOST of 999999 there is no second one.
        String falling = "box 2 0 0 0;unknown 5000;warm unknown -4000 999 0;supply 2000 ";
        DecadeBridge alone = made(falling + "999999");
        due("the second reading cannot be made", alone, true, 2, 10, 5);
        Check.due("the first look was one reading", alone.reading(4), 9999999);
        Check.due("the next look's first reading", alone.reading(3), -9999999);
        DecadeBridge both = made(falling + "1000000");
        due("the second reading can be made", both, true, 2, 10, 6);
        Check.due("the first look's first reading", both.reading(5), 9999999);
        Check.due("the first look's second reading", both.reading(4), 0);
        DecadeBridge turned = made(falling + "999999");
        turned.turn();
        due("the supply was turned ahead of the look", turned, true, 2, 10, 5);
        Check.due("the first look was one reading", turned.reading(4), -9999999);
        // A first reading that is a null alone ends the balance; a first reading of -1 alone is no null, though half of
        // it is 0.
        String one = "box 2 0 0 0;unknown 1000;warm unknown -4000 999 0;supply 1000 500000;detector 9999999 0 0 ";
        due("a null alone", made(one + "0"), true, 1, 10, 1);
        due("1 alone is too small; 20 is too great", made(one + "1"), true, 5, 11, 3);
        due("-1 alone is too great", made(one + "-1"), true, 5, 1, 1);
        DecadeBridge by1 = made(one + "1");
        by1.turn();
        due("1 alone, turned, is too great", by1, true, 5, 1, 1);
        DecadeBridge by2 = made(one + "-1");
        by2.turn();
        due("-1 alone, turned, is too small; 20 is too great", by2, true, 5, 11, 3);
    }

    // "A balance: all digits become 0."
    private static void allDigitsFirst() {
        for (int setting : new int[] {0, 1, 55, 99}) {
            DecadeBridge bridge = made("box 2 0 0 0;unknown 3700;supply 100 1000000");
            bridge.setTo(setting);
            due("from " + setting, bridge, false, 1, 37, 11);
            Check.due("undone", bridge.undo(), 1);
            Check.due("the setting is back", bridge.size(14), setting);
        }
    }

    // "Told: setting * LOW * nominal value of SECOND / nominal value of FIRST."
    private static void toldValues() {
        // A null by a NOISE as great as FULL: each balance ends at once, with 1 in decade 0.
        int[][] rows = {{0, 0, 0, 10}, {0, 1, 0, 1}, {0, 2, 0, 0}, {0, 0, 4, 100000}, {4, 0, 4, 1000000000},
            {1, 2, 1, 10}, {0, 3, 1, 0}, {4, 4, 0, 10}};
        for (int[] row : rows) {
            DecadeBridge bridge = made("box " + row[0] + " 999 50000 50000;unknown 1000;supply 1 1000000;"
                    + "detector 5 5 0 0;ratio 0 50000;ratio 4 -50000;leads 9 9 9");
            bridge.setArms(row[1], row[2]);
            due("a null at once", bridge, false, 1, 10, 1);
            Check.due("told by arms of " + row[1] + " and " + row[2], bridge.valueOf(0, false), row[3]);
        }
        DecadeBridge great = made("box 4 0 0 0 0 0;unknown 100000000;supply 1 1000000;detector 5 5 0 0");
        great.setArms(0, 4);
        due("a null at once", great, false, 1, 1000, 1);
        Check.due("told beyond an int", great.valueOf(0, false), 100000000000L);
        Check.due("corrected beyond an int", great.valueOf(0, true), 100000000000L);
    }

    // "Corrected, with three leads: (cold value of the setting + lead 1) * value of SECOND / value of FIRST - lead 0;
    // with two leads: cold value of the setting * value of SECOND / value of FIRST - lead 0 - lead 1."
    private static void correctedValues() {
        String setup = "box 0 7 50000 0;unknown 1000;supply 1 1000000;detector 5 5 0 0;ratio 0 1000;ratio 1 -100;leads ";
        // The cold value of 10 is 17; the values of the arms are 1001 and 9999.
        corrected(setup + "0 0 0", 0, 1, 17L * 9999 / 1001, 17L * 9999 / 1001);
        corrected(setup + "1 2 4", 0, 1, 169 - 3, 19L * 9999 / 1001 - 1);
        corrected(setup + "1 2 4", 1, 0, 1 - 3, 1 - 1);
        corrected(setup + "0 82 0", 1, 0, 1 - 82, 99L * 1001 / 9999);
        corrected(setup + "0 83 0", 1, 0, 1 - 83, 100L * 1001 / 9999);
        corrected(setup + "99999 99999 99999", 1, 1, 17 - 199998, 100016 - 99999);
        corrected(setup + "0 0 99999", 0, 0, 17, 17);
        corrected(setup + "17 0 0", 0, 0, 0, 0);
        corrected(setup + "18 0 0", 0, 0, -1, -1);
    }

    // The cold value of the setting counts, however warm the box and the unknown are.
    private static void warmResults() {
        DecadeBridge bridge = made("box 2 0 0 0;unknown 1000;leads 7 5 0;supply 2000 1000000;detector 5 5 0 0;"
                + "warm box 4000 200 0;warm unknown 4000 200 0");
        bridge.setTo(10);
        bridge.read();
        bridge.read();
        Check.due("the box is warm", bridge.part(true, 1), 1800);
        Check.due("the unknown is warm", bridge.part(false, 1), 1800);
        due("a null at once", bridge, false, 1, 10, 1);
        bridge.connect(3);
        due("a null at once", bridge, false, 1, 10, 1);
        Check.due("told", bridge.valueOf(0, false) + bridge.valueOf(1, false), 2000);
        Check.due("corrected with two leads", bridge.valueOf(0, true), 1000 - 12);
        Check.due("corrected with three leads", bridge.valueOf(1, true), 1005 - 7);
    }

    private static void corrected(String setup, int first, int second, long withTwo, long withThree) {
        DecadeBridge bridge = made(setup);
        bridge.setArms(first, second);
        due("a null at once", bridge, false, 1, 10, 1);
        bridge.connect(3);
        due("and with three leads", bridge, false, 1, 10, 1);
        Check.due("corrected with two leads: " + setup, bridge.valueOf(0, true), withTwo);
        Check.due("corrected with three leads: " + setup, bridge.valueOf(1, true), withThree);
        Check.due("told with two", bridge.valueOf(0, false), bridge.valueOf(1, false));
    }

    // "The latest 20 results are kept, numbered from 0, the earliest one first."
    private static void latestTwenty() {
        DecadeBridge bridge = made("box 2 0 0 0;unknown 1000;supply 1 1000000;detector 5 5 0 0");
        for (int made = 1; made <= 23; made++) {
            due("balance " + made, bridge, made);
            int kept = Math.min(20, made);
            Check.due("results of " + made, bridge.size(17), kept);
            Check.due("the earliest one's time", bridge.result(0, 4), made - kept + 1);
            Check.due("the latest one's time", bridge.result(kept - 1, 4), made);
            Check.dueIndex("none behind it", () -> bridge.result(kept, 4));
        }
        for (int i = 0; i < 20; i++) {
            Check.due("the time of result " + i, bridge.result(i, 4), i + 4);
        }
    }

    private static void due(String what, DecadeBridge bridge, int time) {
        Check.due(what, bridge.balance(false), 1);
        Check.due(what + ": the time", bridge.size(9), time);
    }
}
