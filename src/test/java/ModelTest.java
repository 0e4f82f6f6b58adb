import java.util.Random;

// Runs of calls drawn by chance (from fixed seeds), each answer compared with the model's.
public final class ModelTest {
    private static final int RUNS = Integer.getInteger("runs", 2500);
    // "An object is used for at most 512 calls", and one turn of a run takes fewer than that.
    private static final int MOST_CALLS = 512;
    private static final int MOST_OF_ONE_TURN = 180;
    private static final String[] JUNK = {" ", "\n", ";", "(", ")", "-", "0", "9", "00", "box", "a", "Z", "\u00e9", "1234567890",
        "null", "turned", "repeat", "read", ",", "unknown 1000", ";;", "\t", "read 3;", "3"};

    private final Random chance;
    private final int run;
    private final DecadeBridge bridge = new DecadeBridge();
    private final Model model = new Model();
    private int left = MOST_CALLS;
    private int call;

    private ModelTest(int run) {
        this.run = run;
        chance = new Random(run * 7919L + 17);
    }

    public static void main(String[] args) {
        for (int run = 0; run < RUNS; run++) {
            new ModelTest(run).go();
        }
        Check.end();
    }

    private void go() {
        loadSome();
        for (call = 0; left > MOST_OF_ONE_TURN; call++) {
            int kind = chance.nextInt(100);
            if (kind < 2) {
                loadSome();
            } else if (kind < 18) {
                runSome();
            } else if (kind < 75) {
                operate();
            } else if (kind < 85) {
                goBack();
            } else if (kind < 89) {
                searches();
            } else {
                foretell();
            }
            compareSome();
        }
        compareSizes();
        compareParts();
        compareNow();
        compareReadings();
        Check.due("calls of run " + run + " beyond " + MOST_CALLS, Math.min(0, left), 0);
    }

    private int below(int n) {
        return chance.nextInt(n);
    }

    private int between(int least, int most) {
        return least + chance.nextInt(most - least + 1);
    }

    // A number of the range; its edges come often, and now and then small ones.
    private int some(int least, int most) {
        switch (below(8)) {
            case 0: return least;
            case 1: return most;
            case 2: return Math.max(least, Math.min(most, between(0, 9)));
            default: return between(least, most);
        }
    }

    private void due(String what, double got, double want) {
        left--;
        if (got != want) {
            Check.tell("run " + run + ", call " + call + ": " + what + " answered " + got + ", the model " + want);
        }
        Check.dueDouble("ok", 0, 0);
    }

    // ---- texts

    private void give(String text) {
        for (int at = 0; at < text.length();) {
            int[] words = new int[5];
            for (int w = 0; w < 5; w++) {
                int bytes = below(5);
                for (int b = 0; b < bytes && at < text.length(); b++) {
                    words[w] |= (text.charAt(at) & 255) << 8 * below4(b, bytes);
                    at++;
                }
            }
            due("feed", bridge.feed(words[0], words[1], words[2], words[3], words[4]), model.feed(words));
        }
    }

    // The place of byte b of some bytes, with the zero bytes ahead or behind.
    private int below4(int b, int bytes) {
        return run % 2 == 0 ? 3 - b : bytes - 1 - b;
    }

    private String spoilt(String text) {
        StringBuilder spoilt = new StringBuilder(text);
        int times = below(3) == 0 ? between(1, 3) : 0;
        for (int i = 0; i < times; i++) {
            int at = below(spoilt.length() + 1);
            int cut = Math.min(spoilt.length(), at + below(4));
            spoilt.replace(at, cut, below(2) == 0 ? JUNK[below(JUNK.length)] : "");
        }
        return spoilt.toString();
    }

    private void loadSome() {
        give(spoilt(someSetup()));
        due("load", bridge.load(), model.load());
        due("errorPosition", bridge.errorPosition(), model.errorPosition);
    }

    private String someSetup() {
        int exponent = below(5);
        int decades = between(2, 4);
        int errorsUpTo = new int[] {0, 100, 3000, 50000}[below(4)];
        StringBuilder text = new StringBuilder("box " + exponent + " " + (below(2) == 0 ? 0 : some(0, 999)));
        double top = Math.pow(10, exponent + decades);
        for (int d = 0; d < decades; d++) {
            text.append(' ').append(some(-errorsUpTo, errorsUpTo));
        }
        double wanted = top * chance.nextDouble() * Math.pow(10, below(3) == 0 ? between(-4, 4) : 0);
        text.append(";unknown ").append((long) Math.max(1000, Math.min(100000000, wanted)));
        if (below(2) == 0) {
            text.append(";warm unknown " + some(-4000, 4000) + " " + some(0, 999) + " " + some(0, 99));
        }
        if (below(2) == 0) {
            text.append("; warm box " + some(-4000, 4000) + " " + some(0, 999) + " " + some(0, 99));
        }
        if (below(2) == 0) {
            int most = new int[] {9, 999, 99999}[below(3)];
            text.append(";leads " + some(0, most) + " " + some(0, most) + "\n" + some(0, most));
        }
        if (below(2) == 0) {
            text.append(";supply " + some(0, 20000) + " " + (below(3) == 0 ? some(1, 1000000) : 1000000));
        }
        if (below(3) > 0) {
            text.append(";detector " + (below(3) == 0 ? some(1, 9999999) : 9999999) + " "
                + some(0, new int[] {0, 5, 200, 9999}[below(4)]) + " " + some(0, new int[] {0, 3, 999}[below(3)])
                + " " + some(-99999, 99999) / new int[] {1, 1000, 100000}[below(3)]);
        }
        for (int kind = 0; kind < 5; kind++) {
            if (below(3) == 0) {
                text.append(";ratio " + kind + " " + some(-errorsUpTo, errorsUpTo));
            }
        }
        if (below(2) == 0) {
            text.append(";seed " + some(0, 99999));
        }
        return text.toString();
    }

    private void runSome() {
        StringBuilder text = new StringBuilder();
        addSteps(text, below(6), 0);
        give(spoilt(text.toString()));
        due("run", bridge.run(), model.run());
        due("errorPosition", bridge.errorPosition(), model.errorPosition);
    }

    private void addSteps(StringBuilder text, int number, int depth) {
        for (int i = 0; i < number; i++) {
            switch (below(11)) {
                case 0: text.append("arms " + below(5) + " " + below(5)); break;
                case 1: text.append("volts " + some(0, 20000)); break;
                case 2: text.append("set " + some(0, below(2) == 0 ? 99 : 9999)); break;
                case 3: text.append("turn"); break;
                case 4: text.append("wires " + between(2, 3)); break;
                case 5: text.append("rest " + some(1, 99)); break;
                case 6: text.append("read " + some(1, 20)); break;
                case 7: text.append("balance"); break;
                case 8: text.append("balance turned"); break;
                case 9:
                    text.append("repeat " + some(0, 20) + "(");
                    addSteps(text, below(4), depth + 1);
                    text.append(")");
                    break;
                default:
                    text.append("unless null (");
                    addSteps(text, below(4), depth + 1);
                    text.append(") ");
                    break;
            }
            text.append(";");
        }
    }

    // ---- operations

    private void operate() {
        int[] settings = {99, 999, 9999};
        switch (below(11)) {
            case 0: arms(below(5), below(5)); break;
            case 1: arms(0, below(2)); break;
            case 2: volts(some(0, 20000)); break;
            case 3: setting(below(settings[model.setup.errors.size() - 2] + (below(9) == 0 ? 30 : 1))); break;
            case 4: digit(below(model.setup.errors.size()), below(10)); break;
            case 5: due("turn", bridge.turn(), model.turn()); break;
            case 6: wires(between(2, 3)); break;
            case 7: rests(some(1, 99)); break;
            case 8: due("read", bridge.read(), model.read()); break;
            case 9: due("balance", bridge.balance(false), model.balance(false)); break;
            default: due("balance turned", bridge.balance(true), model.balance(true)); break;
        }
    }

    private void arms(int first, int second) {
        due("setArms", bridge.setArms(first, second), model.setArms(first, second));
    }

    private void volts(int volts) {
        due("setVolts", bridge.setVolts(volts), model.setVolts(volts));
    }

    private void setting(int setting) {
        due("setTo " + setting, bridge.setTo(setting), model.setTo(setting));
    }

    private void digit(int decade, int digit) {
        due("setDigit", bridge.setDigit(decade, digit), model.setDigit(decade, digit));
    }

    private void wires(int leads) {
        due("connect", bridge.connect(leads), model.connect(leads));
    }

    private void rests(int ticks) {
        due("rest", bridge.rest(ticks), model.rest(ticks));
    }

    private void goBack() {
        int slot = below(2);
        switch (below(4)) {
            case 0: due("save", bridge.save(slot), model.save(slot)); break;
            case 1: due("restore", bridge.restore(slot), model.restore(slot)); break;
            default:
                int times = below(4);
                for (int i = 0; i < times; i++) {
                    due("undo", bridge.undo(), model.undo());
                }
                break;
        }
    }

    // ---- what the calls answer

    // In an order by chance, for each call is to look at the bridge as it is now.
    private void searches() {
        int first = below(5);
        int second = below(5);
        for (int i = 0; i < 3; i++) {
            switch (below(6)) {
                case 0: due("best", bridge.best(), model.best()); break;
                case 1: due("miss", bridge.miss(), model.miss()); break;
                case 2: due("better", bridge.better(), model.better()); break;
                case 3: due("bestWith", bridge.bestWith(first, second), model.bestWith(first, second)); break;
                case 4:
                    if (below(model.setup.errors.size() == 4 ? 4 : 1) == 0) {
                        due("bestArms", bridge.bestArms(), model.bestArms());
                    }
                    break;
                default:
                    int leads = between(2, 3);
                    due("apparent", bridge.apparent(leads), model.apparent(leads));
                    break;
            }
        }
    }

    private void foretell() {
        switch (below(5)) {
            case 0: due("ideal", bridge.ideal(), model.ideal()); break;
            case 1: due("steadyIn", bridge.steadyIn(), model.steadyIn(true)); break;
            case 2: due("cooledIn", bridge.cooledIn(), model.steadyIn(false)); break;
            case 3:
                due("report", bridge.report(), model.report());
                int length = model.report.length();
                reportByte(-1);
                reportByte(length - 1);
                reportByte(length);
                int from = below(length + 1);
                for (int i = from; i < from + 20; i++) {
                    reportByte(i);
                }
                break;
            default:
                int ticks = some(0, 300);
                int what = below(3);
                due("foretold", bridge.foretold(ticks, what), model.foretold(ticks, what));
                break;
        }
    }

    private void reportByte(int i) {
        boolean there = i >= 0 && i < model.report.length();
        due("reportByte " + i, bridge.reportByte(i), there ? model.report.charAt(i) : -1);
    }

    private void compareSome() {
        switch (below(10)) {
            case 0: compareSizes(); break;
            case 1: compareParts(); break;
            case 2: compareNow(); break;
            case 3: compareReadings(); break;
            case 4: case 5: compareResults(); break;
            default:
                int what = below(20);
                due("size " + what, bridge.size(what), model.size(what));
                due("deflection", bridge.deflection(), model.deflection());
                break;
        }
    }

    private void compareSizes() {
        for (int what = 0; what < 20; what++) {
            due("size " + what, bridge.size(what), model.size(what));
        }
    }

    private void compareParts() {
        for (int d = 0; d < model.setup.errors.size(); d++) {
            due("decade step", bridge.decade(d, 0), model.stepOf(d));
            due("decade error", bridge.decade(d, 1), model.setup.errors.get(d));
            due("decade digit", bridge.decade(d, 2), model.state.digits[d]);
        }
        for (int kind = 0; kind < 5; kind++) {
            due("ratio", bridge.ratio(kind, 2), model.value(kind));
        }
        for (int what = 0; what < 7; what++) {
            due("unknown " + what, bridge.part(false, what), model.part(false, what));
            due("box " + what, bridge.part(true, what), model.part(true, what));
        }
        int setting = below(model.settings());
        due("coldOf", bridge.coldOf(setting), model.cold(model.digitsOf(setting)));
    }

    private void compareNow() {
        due("share", bridge.share(false), model.share(false));
        due("share of arms", bridge.share(true), model.share(true));
        due("deflection", bridge.deflection(), model.deflection());
        due("current", bridge.current(), model.current());
        due("power", bridge.power(false), model.power(false));
        due("power of the box", bridge.power(true), model.power(true));
        due("whyNot", bridge.whyNot(), model.whyNot());
        due("energy", bridge.energy(), model.state.energy);
    }

    private void compareReadings() {
        for (int i = -1; i < 12; i++) {
            boolean there = i >= 0 && i < model.state.readings.size();
            due("reading", bridge.reading(i), there ? model.state.readings.get(i) : -1000000000);
        }
        due("meanReading", bridge.meanReading(), model.meanReading());
        due("spread", bridge.spread(), model.spread());
    }

    // The latest result, others by chance, and some manners.
    private void compareResults() {
        int results = model.state.outcomes.size();
        for (int n = 0; n < 4 && results > 0; n++) {
            int i = n == 0 ? results - 1 : below(results);
            for (int what = 0; what < 7; what++) {
                due("result " + what, bridge.result(i, what), model.result(i, what));
            }
            due("told", bridge.valueOf(i, false), model.state.outcomes.get(i).told());
            due("corrected", bridge.valueOf(i, true), model.state.outcomes.get(i).corrected());
        }
        int manners = model.manners().size();
        for (int n = 0; n < 3 && manners > 0; n++) {
            int m = below(manners);
            for (int what = 0; what < 6; what++) {
                due("manner " + what, bridge.manner(m, what), model.manner(m, what));
            }
            due("meanOf", bridge.meanOf(m), model.meanOf(m));
            due("spreadOf", bridge.spreadOf(m), model.spreadOf(m));
        }
        due("steadiest", bridge.steadiest(), model.steadiest());
    }
}
