// Where the sentences of "Operations" and of promises 37 to 44 have their boundaries. (balance has a test of its own.)
public final class OperationsEdgesTest {
    private static final int LEAST = Integer.MIN_VALUE;
    private static final int MOST = Integer.MAX_VALUE;

    public static void main(String[] args) {
        arms();
        volts();
        settings();
        digits();
        turns();
        leads();
        rests();
        reads();
        recorded();
        notRecorded();
        Check.end();
    }

    // "@return the previous ones, as 10 times FIRST plus SECOND. @throws IndexOutOfBoundsException if there is no such kind"
    private static void arms() {
        DecadeBridge bridge = new DecadeBridge();
        int previous = 0;
        for (int first = 0; first < 5; first++) {
            for (int second = 0; second < 5; second++) {
                Check.due("setArms " + first + " " + second, bridge.setArms(first, second), previous);
                previous = 10 * first + second;
                Check.due("FIRST and SECOND", bridge.size(10) * 10 + bridge.size(11), previous);
                Check.due("the arms' share", bridge.share(true), 1000000000L * bridge.ratio(second, 2)
                        / (bridge.ratio(first, 2) + bridge.ratio(second, 2)));
            }
        }
        for (int bad : new int[] {LEAST, -1, 5, MOST}) {
            Check.dueIndex("setArms first " + bad, () -> bridge.setArms(bad, 0));
            Check.dueIndex("setArms second " + bad, () -> bridge.setArms(0, bad));
            Check.dueIndex("setArms both " + bad, () -> bridge.setArms(bad, bad));
        }
        Check.due("the arms stay", bridge.size(10) * 10 + bridge.size(11), 44);
    }

    // "@param volts 0 to 20000. @return the previous ones."
    private static void volts() {
        DecadeBridge bridge = new DecadeBridge();
        int[] volts = {0, 1, 19999, 20000, 0, 1000};
        int previous = 1000;
        for (int v : volts) {
            Check.due("setVolts " + v, bridge.setVolts(v), previous);
            Check.due("VOLTS", bridge.size(3), v);
            Check.due("the current", bridge.current(), 1000L * v);
            previous = v;
        }
        for (int bad : new int[] {LEAST, -1, 20001, MOST}) {
            Check.dueArgument("setVolts " + bad, () -> bridge.setVolts(bad));
        }
        Check.due("VOLTS stay", bridge.size(3), 1000);
        Check.due("six are recorded", bridge.size(19), 6);
    }

    // "@return the previous setting; -2 if there is no such setting. @throws IllegalArgumentException if setting is
    // negative"
    private static void settings() {
        String[] errors = {" 0 0", " 0 0 0", " 0 0 0 0"};
        int number = 100;
        for (String row : errors) {
            DecadeBridge bridge = Bridges.made("box 1 5" + row + ";unknown 1000");
            Check.due("setTo the highest", bridge.setTo(number - 1), 0);
            Check.due("the box then", bridge.part(true, 0), 10 * (number - 1) + 5);
            Check.due("setTo 0", bridge.setTo(0), number - 1);
            Check.due("the box then", bridge.part(true, 0), 5);
            Check.due("setTo 1", bridge.setTo(1), 0);
            for (int bad : new int[] {number, number + 1, 10 * number, MOST}) {
                Check.due("setTo " + bad, bridge.setTo(bad), -2);
            }
            for (int bad : new int[] {LEAST, -number, -1}) {
                Check.dueArgument("setTo " + bad, () -> bridge.setTo(bad));
            }
            Check.due("the setting stays", bridge.size(14), 1);
            Check.due("three are recorded", bridge.size(19), 3);
            number *= 10;
        }
    }

    // "@param digit 0 to 9. @return the setting then. @throws IndexOutOfBoundsException if there is no such decade."
    private static void digits() {
        String[] errors = {" 0 0", " 0 0 0", " 0 0 0 0"};
        for (int decades = 2; decades <= 4; decades++) {
            DecadeBridge bridge = Bridges.made("box 0 0" + errors[decades - 2] + ";unknown 1000");
            int setting = 0;
            int weight = 1;
            for (int d = decades - 1; d >= 0; d--) {
                for (int digit : new int[] {9, 0, 1, 8}) {
                    setting += (digit - setting / weight % 10) * weight;
                    Check.due("setDigit " + d + " " + digit, bridge.setDigit(d, digit), setting);
                    Check.due("the digit", bridge.decade(d, 2), digit);
                    Check.due("the box", bridge.part(true, 0), setting);
                }
                int decade = d;
                for (int bad : new int[] {LEAST, -1, 10, MOST}) {
                    Check.dueArgument("setDigit " + d + " " + bad, () -> bridge.setDigit(decade, bad));
                }
                weight *= 10;
            }
            for (int bad : new int[] {LEAST, -1, decades, MOST}) {
                Check.dueIndex("setDigit of decade " + bad, () -> bridge.setDigit(bad, 0));
                Check.dueIndex("setDigit of decade " + bad + " ahead of a bad digit", () -> bridge.setDigit(bad, -1));
                Check.dueIndex("setDigit of decade " + bad + " ahead of a bad digit", () -> bridge.setDigit(bad, 10));
            }
            Check.due("the setting stays", bridge.size(14), setting);
        }
    }

    // "@return 1 if it is turned then, otherwise 0"
    private static void turns() {
        DecadeBridge bridge = new DecadeBridge();
        for (int i = 1; i <= 9; i++) {
            Check.due("turn " + i, bridge.turn(), i % 2);
            Check.due("the supply", bridge.size(12), i % 2);
            Check.due("the deflection", bridge.deflection(), i % 2 == 1 ? -500000000 : 500000000);
        }
    }

    // "@param leads 2 or 3. @return the previous number."
    private static void leads() {
        DecadeBridge bridge = new DecadeBridge();
        int[] leads = {2, 3, 3, 2};
        int previous = 2;
        for (int n : leads) {
            Check.due("connect " + n, bridge.connect(n), previous);
            Check.due("the leads in use", bridge.size(13), n);
            previous = n;
        }
        for (int bad : new int[] {LEAST, -1, 0, 1, 4, MOST}) {
            Check.dueArgument("connect " + bad, () -> bridge.connect(bad));
        }
        Check.due("the leads stay", bridge.size(13) * 10 + bridge.size(19), 24);
    }

    // "@param ticks 1 to 99. @return the time then."
    private static void rests() {
        DecadeBridge bridge = new DecadeBridge();
        int[] ticks = {1, 99, 2, 98, 1};
        int time = 0;
        for (int n : ticks) {
            time += n;
            Check.due("rest " + n, bridge.rest(n), time);
            Check.due("the time", bridge.size(9), time);
        }
        for (int bad : new int[] {LEAST, -1, 0, 100, MOST}) {
            Check.dueArgument("rest " + bad, () -> bridge.rest(bad));
        }
        Check.due("the time stays", bridge.size(9), time);
        Check.due("no reading, no energy", bridge.size(15) + bridge.energy(), 0);
        // A rest of n is n rests of 1: the heat and the draws are the same.
        String warm = "box 2 0 0 0;unknown 1000;warm unknown 50 150 7;warm box -60 150 9;detector 9999999 10 20 30";
        DecadeBridge once = warmed(warm);
        DecadeBridge often = warmed(warm);
        once.rest(99);
        for (int i = 0; i < 99; i++) {
            often.rest(1);
        }
        once.read();
        often.read();
        for (int what : new int[] {8, 9, 15, 16}) {
            Check.due("size " + what + " behind one rest or many", once.size(what), often.size(what));
        }
        Check.due("the temperature", once.part(false, 5), often.part(false, 5));
        Check.due("the reading", once.reading(0), often.reading(0));
    }

    private static DecadeBridge warmed(String setup) {
        DecadeBridge bridge = Bridges.made(setup);
        bridge.setTo(10);
        bridge.read();
        Check.due("both are warm", bridge.part(false, 5) > 0 && bridge.part(true, 5) > 0 ? 1 : 0, 1);
        return bridge;
    }

    // "@return how many readings are kept then; -2 if VOLTS is 0; -3 if the current is above MOST"
    private static void reads() {
        DecadeBridge bridge = Bridges.made("box 2 0 0 0;unknown 1000;supply 0 100000");
        Check.due("VOLTS 0", bridge.read(), -2);
        bridge.setVolts(1);
        Check.due("VOLTS 1", bridge.read(), 1);
        bridge.setVolts(101);
        Check.due("a current of 101000", bridge.read(), -3);
        bridge.setVolts(100);
        Check.due("a current of 100000", bridge.read(), 2);
        Check.due("two are made", bridge.size(15) * 10 + bridge.size(9), 22);
        for (int i = 3; i <= 12; i++) {
            Check.due("reading " + i, bridge.read(), Math.min(i, 10));
        }
        bridge.undo();
        bridge.undo();
        bridge.undo();
        Check.due("9 are kept again", bridge.reading(9), -1000000000);
        Check.due("the tenth", bridge.read(), 10);
        DecadeBridge least = Bridges.made("box 2 0 0 0;unknown 1000;supply 0 1");
        Check.due("VOLTS 0 ahead of MOST", least.read(), -2);
        least.setVolts(1);
        Check.due("a current of 1000 with MOST 1", least.read(), -3);
    }

    private interface Operation {
        long on(DecadeBridge bridge);
    }

    // "Every call that does not return a negative error code and does not throw an exception is recorded, even if it
    // changes nothing"
    private static void recorded() {
        Operation[] nothing = {b -> b.setArms(0, 0), b -> b.setVolts(1000), b -> b.setTo(0), b -> b.setDigit(1, 0),
            b -> b.connect(2), b -> b.run()};
        for (Operation operation : nothing) {
            DecadeBridge bridge = new DecadeBridge();
            operation.on(bridge);
            Check.due("recorded though it changes nothing", bridge.size(19), 1);
            Check.due("undone", bridge.undo(), 0);
        }
        Operation[] all = {b -> b.setArms(1, 2), b -> b.setVolts(7), b -> b.setTo(33), b -> b.setDigit(0, 4), b -> b.turn(),
            b -> b.connect(3), b -> b.rest(5), b -> b.read(), b -> b.balance(false), b -> b.balance(true),
            b -> Bridges.run(b, "turn;rest 3;read 1;")};
        String before = Portrait.now(new DecadeBridge());
        for (int i = 0; i < all.length; i++) {
            DecadeBridge bridge = new DecadeBridge();
            all[i].on(bridge);
            Check.due("operation " + i + " is recorded", bridge.size(19), 1);
            Check.due("operation " + i + " does something", Portrait.now(bridge).equals(before) ? 1 : 0, 0);
            Check.due("operation " + i + " is undone", bridge.undo(), 0);
            Check.dueSame("all is as before operation " + i, Portrait.now(bridge), before);
        }
    }

    private static void notRecorded() {
        DecadeBridge bridge = Bridges.made("box 2 0 0 0;unknown 1000");
        bridge.balance(false);
        Operation[] others = {b -> b.feed(' ', 0, 0, 0, 0), b -> b.save(0), b -> b.report(), b -> b.reportByte(0),
            b -> b.best(), b -> b.ideal(), b -> b.bestArms(), b -> b.foretold(9, 2), b -> b.steadyIn(), b -> b.errorPosition(),
            b -> b.result(0, 0), b -> b.steadiest(), b -> b.coldOf(5), b -> b.apparent(3)};
        for (Operation other : others) {
            other.on(bridge);
            Check.due("no operation", bridge.size(19), 1);
        }
    }
}
