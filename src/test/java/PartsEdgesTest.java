// Where the sentences of "Parts" and of promises 6 to 11 have their boundaries: just inside and just outside.
public final class PartsEdgesTest {
    private static final int LEAST = Integer.MIN_VALUE;
    private static final int MOST = Integer.MAX_VALUE;

    public static void main(String[] args) {
        kinds();
        ratioValues();
        decades();
        digits();
        coldValues();
        settings();
        warmValues();
        hottest();
        leads();
        whats();
        Check.end();
    }

    // "There are 5 kinds of ratio resistors, numbered from 0; the nominal value of kind k is 1000 times 10^k."
    private static void kinds() {
        DecadeBridge bridge = new DecadeBridge();
        int nominal = 1000;
        for (int kind = 0; kind < 5; kind++) {
            Check.due("nominal value of kind " + kind, bridge.ratio(kind, 0), nominal);
            Check.due("no error of kind " + kind, bridge.ratio(kind, 1), 0);
            Check.due("value of kind " + kind, bridge.ratio(kind, 2), nominal);
            nominal *= 10;
        }
        for (int bad : new int[] {LEAST, -1, 5, MOST}) {
            Check.dueIndex("no kind " + bad, () -> bridge.ratio(bad, 2));
        }
    }

    // "its value is nominal + nominal * error / 1000000", rounded towards zero.
    private static void ratioValues() {
        int[][] due = {{0, 999, 1000}, {0, 1000, 1001}, {0, 1001, 1001}, {0, -999, 1000}, {0, -1000, 999},
            {0, -1001, 999}, {0, 50000, 1050}, {0, -50000, 950}, {0, 1999, 1001}, {0, 2000, 1002}, {0, -2000, 998},
            {1, 99, 10000}, {1, 100, 10001}, {1, -99, 10000}, {1, -100, 9999}, {2, 9, 100000}, {2, 10, 100001},
            {2, -9, 100000}, {2, -10, 99999}, {3, 1, 1000001}, {3, -1, 999999}, {4, 1, 10000010}, {4, -1, 9999990},
            {4, 50000, 10500000}, {4, -50000, 9500000}, {4, 49999, 10499990}};
        for (int[] row : due) {
            DecadeBridge bridge = Bridges.made("box 0 0 0 0;unknown 1000;ratio " + row[0] + " " + row[1]);
            String what = "kind " + row[0] + " with an error of " + row[1];
            Check.due("the error of " + what, bridge.ratio(row[0], 1), row[1]);
            Check.due("the value of " + what, bridge.ratio(row[0], 2), row[2]);
            Check.due("the nominal value stays", bridge.ratio(row[0], 0), new DecadeBridge().ratio(row[0], 0));
        }
    }

    // "The box has 2 to 4 decades, numbered from 0 (the highest one); the step of the lowest one is LOW, that of
    // each other one is 10 times that of the next."
    private static void decades() {
        String[] errors = {" 1 2", " 1 2 3", " 1 2 3 4"};
        for (int decades = 2; decades <= 4; decades++) {
            int low = 1;
            for (int exponent = 0; exponent <= 4; exponent++) {
                DecadeBridge bridge = Bridges.made("box " + exponent + " 0" + errors[decades - 2] + ";unknown 1000");
                Check.due("decades", bridge.size(0), decades);
                Check.due("LOW", bridge.size(1), low);
                int step = low;
                for (int d = decades - 1; d >= 0; d--) {
                    Check.due("the step of decade " + d + " of " + decades, bridge.decade(d, 0), step);
                    Check.due("its error", bridge.decade(d, 1), d + 1);
                    Check.due("its digit is 0 at first", bridge.decade(d, 2), 0);
                    step *= 10;
                }
                low *= 10;
                for (int bad : new int[] {LEAST, -1, decades, MOST}) {
                    Check.dueIndex("no decade " + bad + " of " + decades, () -> bridge.decade(bad, 0));
                }
            }
        }
    }

    // "a digit (0 to 9; 0 at first). The setting is the number that the digits form."
    private static void digits() {
        DecadeBridge bridge = Bridges.made("box 0 0 0 0 0 0;unknown 1000");
        Check.due("the setting is 0 at first", bridge.size(14), 0);
        int[] settings = {9, 10, 99, 100, 999, 1000, 9999, 1, 0, 9000, 900, 90, 8765};
        for (int setting : settings) {
            bridge.setTo(setting);
            Check.due("the setting", bridge.size(14), setting);
            int rest = setting;
            for (int d = 3; d >= 0; d--) {
                Check.due("digit " + d + " of " + setting, bridge.decade(d, 2), rest % 10);
                rest /= 10;
            }
            Check.due("the box without errors", bridge.part(true, 0), setting);
        }
    }

    // "(the sum over the decades of digit * step * (1000000 + error)) / 1000000 + CONTACT", rounded towards zero.
    private static void coldValues() {
        cold("box 0 0 0 -1", 1, 0, "0.999999");
        cold("box 0 0 0 0", 1, 1, "1");
        cold("box 0 0 0 1", 1, 1, "1.000001");
        cold("box 0 0 49999 0", 29, 29, "20.99998 + 9");
        cold("box 0 0 50000 0", 29, 30, "21 + 9");
        cold("box 0 0 49999 2", 29, 29, "20.99998 + 9.000018 are 29.999998");
        cold("box 0 0 49999 3", 29, 30, "20.99998 + 9.000027 are 30.000007");
        cold("box 0 0 -50000 -1", 21, 19, "19 + 0.999999");
        cold("box 0 0 -50000 0", 21, 20, "19 + 1");
        cold("box 0 0 -49999 0", 20, 19, "19.00002");
        cold("box 1 0 0 -50000 10000", 99, 945, "855 + 90.9 are 945.9");
        cold("box 4 0 50000 50000 50000 50000", 9999, 104989500, "the greatest sum");
        cold("box 4 0 -50000 -50000 -50000 -50000", 9999, 94990500, "with the least errors");
        cold("box 4 999 50000 50000 50000 50000", 9999, 104990499, "the greatest sum and CONTACT");
        cold("box 0 999 0 -1", 1, 999, "0.999999 and CONTACT");
        cold("box 0 999 0 0", 0, 999, "CONTACT alone");
        cold("box 0 0 50000 50000", 0, 0, "nothing");
    }

    private static void cold(String box, int setting, int due, String why) {
        DecadeBridge bridge = Bridges.made(box + ";unknown 1000");
        Check.due(box + ": the cold value of " + setting + ": " + why, bridge.coldOf(setting), due);
        bridge.setTo(setting);
        Check.due(box + ": the box's cold value at " + setting + ": " + why, bridge.part(true, 0), due);
    }

    // "Returns the cold value of a setting. @throws IllegalArgumentException if there is no such setting."
    private static void settings() {
        String[] errors = {" 0 0", " 0 0 0", " 0 0 0 0"};
        int settings = 100;
        for (String row : errors) {
            DecadeBridge bridge = Bridges.made("box 1 7" + row + ";unknown 1000");
            int number = settings;
            Check.due("coldOf 0", bridge.coldOf(0), 7);
            Check.due("coldOf the last setting", bridge.coldOf(number - 1), 10 * (number - 1) + 7);
            for (int bad : new int[] {LEAST, -1, number, 9 * number, MOST}) {
                Check.dueArgument("no setting " + bad + " of " + number, () -> bridge.coldOf(bad));
            }
            settings *= 10;
        }
    }

    // "The warm value is the cold value * (1000000000 + COEFFICIENT * temperature) / 1000000000."
    private static void warmValues() {
        // 1000000 microwatts times 200 / 1000 are 200000 in one tick.
        int[][] due = {{0, 1000}, {4, 1000}, {5, 1001}, {9, 1001}, {10, 1002}, {-1, 999}, {-4, 999}, {-5, 999},
            {-6, 998}, {4000, 1800}, {3999, 1799}, {-4000, 200}, {-3999, 200}, {-3995, 201}};
        for (int[] row : due) {
            DecadeBridge bridge = Bridges.made("box 3 0 0 0;unknown 1000;supply 1000 1000000;warm unknown " + row[0]
                    + " 200 0");
            Check.due("warm at 0 with " + row[0], bridge.part(false, 1), 1000);
            bridge.read();
            Check.due("the temperature", bridge.part(false, 5), 200000);
            Check.due("warm at 200000 with " + row[0], bridge.part(false, 1), row[1]);
            Check.due("cold at 200000", bridge.part(false, 0), 1000);
            Check.due("its side is warm", bridge.part(false, 6), row[1]);
            bridge.undo();
            Check.due("warm at 0 again", bridge.part(false, 1), 1000);
        }
        warmBoxes();
        // One millikelvin with a coefficient below 0 takes a part of a milliohm, which is rounded off.
        DecadeBridge one = Bridges.made("box 3 0 0 0;unknown 1000;supply 1000 1000000;warm unknown -1 1 99");
        one.read();
        Check.due("1000 millikelvins", one.part(false, 5), 1000);
        one.rest(99);
        Check.due("1 millikelvin", one.part(false, 5), 1);
        Check.due("999.999999", one.part(false, 1), 999);
    }

    // The box at its setting: 1000 milliohms at 10, which 1000000 microwatts have warmed up, and 2000 at 20.
    private static void warmBoxes() {
        int[][] due = {{4, 1000, 2001}, {5, 1001, 2002}, {-1, 999, 1999}, {-5, 999, 1998}, {4000, 1800, 3600},
            {-4000, 200, 400}};
        for (int[] row : due) {
            DecadeBridge bridge = Bridges.made("box 2 0 0 0;unknown 1000;supply 2000 1000000;warm box " + row[0] + " 200 0");
            bridge.setTo(10);
            bridge.read();
            Check.due("the temperature of the box", bridge.part(true, 5), 200000);
            Check.due("the unknown's own temperature", bridge.part(false, 5), 0);
            Check.due("its cold value", bridge.part(true, 0), 1000);
            Check.due("warm at 200000 with " + row[0], bridge.part(true, 1), row[1]);
            Check.due("its side is warm", bridge.part(true, 6), row[1]);
            bridge.setTo(20);
            Check.due("another cold value", bridge.part(true, 0), 2000);
            Check.due("it is as warm at another setting", bridge.part(true, 1), row[2]);
            Check.due("coldOf is cold", bridge.coldOf(10), 1000);
            Check.due("the unknown is cold", bridge.part(false, 1), 1000);
        }
    }

    // The greatest and the least warm values that there are, of both parts.
    private static void hottest() {
        String both = "box 4 999 50000 50000 50000 50000;unknown 100000000;supply 20000 1000000;leads 99999 99999 99999;";
        DecadeBridge great = Bridges.made(both + "warm unknown 4000 999 0;warm box 4000 999 0");
        great.setTo(9999);
        Bridges.run(great, "repeat 20(read 20;read 20;read 20;);");
        Check.due("the unknown is as hot as can be", great.part(false, 5), 200000);
        Check.due("the box is as hot as can be", great.part(true, 5), 200000);
        Check.due("the greatest unknown", great.part(false, 1), 180000000);
        Check.due("the greatest box", great.part(true, 1), 104990499L * 18 / 10);
        Check.due("the greatest side of the unknown", great.part(false, 6), 180000000 + 2 * 99999);
        great.connect(3);
        Check.due("its side with three leads", great.part(false, 6), 180000000 + 99999);
        Check.due("the greatest side of the box", great.part(true, 6), 104990499L * 18 / 10 + 99999);
        DecadeBridge small = Bridges.made(both + "warm unknown -4000 999 0;warm box -4000 999 0");
        small.setTo(9999);
        Bridges.run(small, "repeat 20(read 20;read 20;read 20;);");
        Check.due("the unknown at its least part", small.part(false, 1), 20000000);
        Check.due("the box at its least part", small.part(true, 1), 104990499L * 2 / 10);
    }

    // "There are three leads, numbered from 0": who bears which one, with two and with three.
    private static void leads() {
        int[][] rows = {{0, 0, 0}, {99999, 0, 0}, {0, 99999, 0}, {0, 0, 99999}, {1, 2, 4}};
        for (int[] row : rows) {
            DecadeBridge bridge = Bridges.made("box 2 5 0 0;unknown 3000;leads " + row[0] + " " + row[1] + " " + row[2]);
            bridge.setTo(10);
            for (int i = 0; i < 3; i++) {
                Check.due("lead " + i, bridge.lead(i), row[i]);
            }
            Check.due("the unknown's side with two leads", bridge.part(false, 6), 3000 + row[0] + row[1]);
            Check.due("the box's side with two leads", bridge.part(true, 6), 1005);
            bridge.connect(3);
            Check.due("the unknown's side with three leads", bridge.part(false, 6), 3000 + row[0]);
            Check.due("the box's side with three leads", bridge.part(true, 6), 1005 + row[1]);
            Check.due("the warm values are without leads", bridge.part(false, 1) + bridge.part(true, 1), 4005);
            for (int bad : new int[] {LEAST, -1, 3, MOST}) {
                Check.dueIndex("no lead " + bad, () -> bridge.lead(bad));
            }
        }
    }

    // "Throws IllegalArgumentException if what is out of range", IndexOutOfBoundsException ahead of it.
    private static void whats() {
        DecadeBridge bridge = Bridges.made("box 0 0 0 0;unknown 1000");
        bridge.rest(1);
        Check.due("size 0", bridge.size(0), 2);
        Check.due("size 19", bridge.size(19), 1);
        for (int bad : new int[] {LEAST, -1, 20, MOST}) {
            Check.dueArgument("size " + bad, () -> bridge.size(bad));
        }
        Check.due("part 0", bridge.part(false, 0), 1000);
        Check.due("part 6", bridge.part(false, 6), 1000);
        for (int bad : new int[] {LEAST, -1, 7, MOST}) {
            Check.dueArgument("part of the box " + bad, () -> bridge.part(true, bad));
            Check.dueArgument("part of the unknown " + bad, () -> bridge.part(false, bad));
        }
        for (int bad : new int[] {LEAST, -1, 3, MOST}) {
            Check.dueArgument("ratio what " + bad, () -> bridge.ratio(0, bad));
            Check.dueArgument("decade what " + bad, () -> bridge.decade(1, bad));
            Check.dueIndex("ratio of no kind, what " + bad, () -> bridge.ratio(5, bad));
            Check.dueIndex("ratio of kind -1, what " + bad, () -> bridge.ratio(-1, bad));
            Check.dueIndex("decade 2 of 2, what " + bad, () -> bridge.decade(2, bad));
            Check.dueIndex("decade -1, what " + bad, () -> bridge.decade(-1, bad));
        }
    }
}
