// A Wheatstone bridge with a decade box. All rows are made in the constructors and used again, so that
// no call makes an object.
public final class DecadeBridge {
    public static final int NONE = -1;
    public static final int HIDDEN = -1000000000;

    private static final int KINDS = 5;
    private static final int LEADS = 3;
    private static final int MOST_DECADES = 4;
    private static final int UNDOABLE = 8;
    private static final int SLOTS = 2;
    private static final int MOST_STEPS = 60;
    private static final int MOST_TICKS = 300;
    private static final int ERRORS_FROM = -10;
    private static final int NO_SUCH_SETTING = -2;
    private static final int NO_VOLTS = -2;

    private final Text text;
    private final Parts parts;
    private final SetupReader setup;
    private final Protocol protocol;
    private final Bench now;
    private final Search search;
    private final Report written;
    private final Bench[] past;
    private final Bench[] kept;
    private final boolean[] filled;
    private int newest;
    private int undoable;

    public DecadeBridge() {
        text = new Text();
        parts = new Parts();
        setup = new SetupReader(text);
        protocol = new Protocol(text);
        now = new Bench(parts);
        search = new Search(parts);
        written = new Report();
        past = new Bench[UNDOABLE];
        for (int i = 0; i < UNDOABLE; i++) {
            past[i] = new Bench(parts);
        }
        kept = new Bench[SLOTS];
        for (int i = 0; i < SLOTS; i++) {
            kept[i] = new Bench(parts);
        }
        filled = new boolean[SLOTS];
    }

    // ---- texts

    public int feed(int a, int b, int c, int d, int e) {
        int more = Text.bytesOf(a) + Text.bytesOf(b) + Text.bytesOf(c) + Text.bytesOf(d) + Text.bytesOf(e);
        if (text.length + more > Text.CAPACITY) {
            return NONE;
        }
        text.append(a);
        text.append(b);
        text.append(c);
        text.append(d);
        text.append(e);
        return text.length;
    }

    public int load() {
        boolean good = setup.understood();
        text.empty();
        if (!good) {
            return ERRORS_FROM - text.errorCode;
        }
        parts.copy(setup.draft);
        now.reset();
        forgetPast();
        for (int i = 0; i < filled.length; i++) {
            filled[i] = false;
        }
        return parts.decades;
    }

    public int run() {
        boolean good = protocol.understood();
        text.empty();
        if (!good) {
            return ERRORS_FROM - text.errorCode;
        }
        remember();
        protocol.start();
        int done = 0;
        for (int i = 0; i < MOST_STEPS; i++) {
            int step = protocol.next(now.latestIsNull());
            if (step == NONE || !perform(step)) {
                return done;
            }
            done++;
        }
        return done;
    }

    public int errorPosition() {
        return text.errorPosition;
    }

    // ---- parts

    public int size(int what) throws IllegalArgumentException {
        checkRange(what, 0, 19);
        switch (what) {
            case 0: return parts.decades;
            case 1: return parts.low;
            case 2: return parts.contact;
            case 3: return now.circuit.volts;
            case 4: return parts.most;
            case 5: return parts.full;
            case 6: return parts.noise;
            case 7: return parts.drift;
            case 8: return now.circuit.zero;
            case 9: return now.circuit.time;
            case 10: return now.circuit.first;
            case 11: return now.circuit.second;
            case 12: return now.circuit.turned ? 1 : 0;
            case 13: return now.circuit.leads;
            case 14: return now.circuit.setting;
            case 15: return now.made;
            case 16: return now.nulls;
            case 17: return now.results.number;
            case 18: return now.results.manners();
            default: return undoable;
        }
    }

    public int ratio(int kind, int what) throws IndexOutOfBoundsException, IllegalArgumentException {
        checkIndex(kind, KINDS);
        checkRange(what, 0, 2);
        switch (what) {
            case 0: return Parts.nominalOf(kind);
            case 1: return parts.errorOfKind(kind);
            default: return parts.valueOfKind(kind);
        }
    }

    public int decade(int decade, int what) throws IndexOutOfBoundsException, IllegalArgumentException {
        checkIndex(decade, parts.decades);
        checkRange(what, 0, 2);
        switch (what) {
            case 0: return parts.stepOf(decade);
            case 1: return parts.errorOfDecade(decade);
            default: return parts.digitOf(now.circuit.setting, decade);
        }
    }

    public int lead(int lead) throws IndexOutOfBoundsException {
        checkIndex(lead, LEADS);
        switch (lead) {
            case 0: return parts.lead0;
            case 1: return parts.lead1;
            default: return parts.lead2;
        }
    }

    public int part(boolean box, int what) throws IllegalArgumentException {
        checkRange(what, 0, 6);
        Circuit circuit = now.circuit;
        Heating heating = box ? parts.box : parts.unknown;
        switch (what) {
            case 0: return box ? circuit.boxCold : parts.unknownCold;
            case 1: return box ? circuit.boxWarm : circuit.unknownWarm;
            case 2: return heating.coefficient;
            case 3: return heating.warming;
            case 4: return heating.cooling;
            case 5: return box ? circuit.boxTemperature : circuit.unknownTemperature;
            default: return box ? circuit.boxSide : circuit.unknownSide;
        }
    }

    public int coldOf(int setting) throws IllegalArgumentException {
        checkRange(setting, 0, parts.settings() - 1);
        return parts.coldAt(setting);
    }

    // ---- as it is now

    public int share(boolean ofArms) {
        return ofArms ? now.circuit.armsShare : now.circuit.unknownShare();
    }

    public long deflection() {
        return now.circuit.imbalance();
    }

    public long current() {
        return now.circuit.amperes();
    }

    public long power(boolean box) {
        Circuit circuit = now.circuit;
        return Circuit.powerBy(circuit.amperes(), box ? circuit.boxWarm : circuit.unknownWarm);
    }

    public int whyNot() {
        return now.circuit.whyBlocked();
    }

    public long energy() {
        return now.circuit.energy;
    }

    public int reading(int i) {
        return now.readingAt(i);
    }

    public double meanReading() {
        return now.kept == 0 ? 0.0 : (double) now.sumOfReadings() / (double) now.kept;
    }

    public float spread() {
        return (float) now.spreadOfReadings();
    }

    // ---- results

    public int result(int i, int what) throws IndexOutOfBoundsException, IllegalArgumentException {
        checkIndex(i, now.results.number);
        checkRange(what, 0, 6);
        Result result = now.results.at(i);
        if (result == null) {
            return NONE;
        }
        switch (what) {
            case 0: return result.first;
            case 1: return result.second;
            case 2: return result.leads;
            case 3: return result.setting;
            case 4: return result.time;
            case 5: return result.ended;
            default: return now.results.mannerOf(i);
        }
    }

    public long valueOf(int i, boolean corrected) throws IndexOutOfBoundsException {
        checkIndex(i, now.results.number);
        Result result = now.results.at(i);
        if (result == null) {
            return NONE;
        }
        return corrected ? result.corrected : result.told;
    }

    public int manner(int m, int what) throws IndexOutOfBoundsException, IllegalArgumentException {
        checkManner(m);
        checkRange(what, 0, 5);
        Results results = now.results;
        Result result = results.at(results.earliest);
        if (result == null) {
            return NONE;
        }
        switch (what) {
            case 0: return result.first;
            case 1: return result.second;
            case 2: return result.leads;
            case 3: return results.gathered;
            case 4: return results.earliest;
            default: return results.latest;
        }
    }

    public double meanOf(int m) throws IndexOutOfBoundsException {
        checkManner(m);
        int gathered = now.results.gathered;
        return gathered == 0 ? 0.0 : (double) now.results.sum / (double) gathered;
    }

    public long spreadOf(int m) throws IndexOutOfBoundsException {
        checkManner(m);
        return now.results.greatest - now.results.least;
    }

    public int steadiest() {
        return now.results.steadiestManner();
    }

    // ---- what would be

    public int best() {
        search.trial.copy(now.circuit);
        return search.bestSetting();
    }

    public int ideal() {
        search.trial.copy(now.circuit);
        return search.idealSetting();
    }

    public long miss() {
        search.trial.copy(now.circuit);
        return search.amountAt(search.idealSetting()) - search.amountAt(search.bestSetting());
    }

    public int better() {
        search.trial.copy(now.circuit);
        return search.countBelow(search.amountAt(now.circuit.setting));
    }

    public int bestWith(int first, int second) throws IndexOutOfBoundsException {
        checkIndex(first, KINDS);
        checkIndex(second, KINDS);
        search.trial.copy(now.circuit);
        search.trial.choose(first, second);
        return search.bestSetting();
    }

    public int bestArms() {
        search.trial.copy(now.circuit);
        return search.armsOfBest();
    }

    public long apparent(int leads) throws IllegalArgumentException {
        checkRange(leads, 2, 3);
        search.trial.copy(now.circuit);
        search.trial.wire(leads);
        return search.naiveValue();
    }

    public long foretold(int ticks, int what) throws IllegalArgumentException {
        checkRange(ticks, 0, MOST_TICKS);
        checkRange(what, 0, 2);
        Circuit trial = search.trial;
        trial.copy(now.circuit);
        for (int i = 0; i < ticks; i++) {
            trial.tick(true);
        }
        switch (what) {
            case 0: return trial.unknownTemperature;
            case 1: return trial.boxTemperature;
            default: return trial.imbalance();
        }
    }

    public int steadyIn() {
        search.trial.copy(now.circuit);
        return search.ticksToSteady(true);
    }

    public int cooledIn() {
        search.trial.copy(now.circuit);
        return search.ticksToSteady(false);
    }

    // ---- operations

    public int setArms(int first, int second) throws IndexOutOfBoundsException {
        checkIndex(first, KINDS);
        checkIndex(second, KINDS);
        int previous = 10 * now.circuit.first + now.circuit.second;
        remember();
        now.circuit.choose(first, second);
        return previous;
    }

    public int setVolts(int volts) throws IllegalArgumentException {
        checkRange(volts, 0, 20000);
        int previous = now.circuit.volts;
        remember();
        now.circuit.volts = volts;
        return previous;
    }

    public int setTo(int setting) throws IllegalArgumentException {
        if (setting < 0) {
            throw new IllegalArgumentException();
        }
        if (setting >= parts.settings()) {
            return NO_SUCH_SETTING;
        }
        int previous = now.circuit.setting;
        remember();
        now.circuit.dial(setting);
        return previous;
    }

    public int setDigit(int decade, int digit) throws IndexOutOfBoundsException, IllegalArgumentException {
        checkIndex(decade, parts.decades);
        checkRange(digit, 0, 9);
        remember();
        int more = digit - parts.digitOf(now.circuit.setting, decade);
        now.circuit.dial(now.circuit.setting + more * parts.weightOf(decade));
        return now.circuit.setting;
    }

    public int turn() {
        remember();
        now.circuit.turned = !now.circuit.turned;
        return now.circuit.turned ? 1 : 0;
    }

    public int connect(int leads) throws IllegalArgumentException {
        checkRange(leads, 2, 3);
        int previous = now.circuit.leads;
        remember();
        now.circuit.wire(leads);
        return previous;
    }

    public int rest(int ticks) throws IllegalArgumentException {
        checkRange(ticks, 1, 99);
        remember();
        now.passTime(ticks);
        return now.circuit.time;
    }

    public int read() {
        int why = now.circuit.whyBlocked();
        if (why != 0) {
            return -1 - why;
        }
        remember();
        now.makeReading();
        return now.kept;
    }

    public int balance(boolean turned) {
        if (now.circuit.volts == 0) {
            return NO_VOLTS;
        }
        remember();
        return now.seekBalance(turned);
    }

    // ---- reports, undo, saved states

    public int report() {
        written.write(now.results, parts.decades);
        return written.length;
    }

    public int reportByte(int i) {
        return written.byteAt(i);
    }

    public int undo() {
        Bench latest = undoable > 0 ? benchAt(past, newest) : null;
        if (latest == null) {
            return NONE;
        }
        now.copy(latest);
        newest = newest == 0 ? UNDOABLE - 1 : newest - 1;
        undoable--;
        return undoable;
    }

    public int save(int slot) throws IllegalArgumentException {
        checkRange(slot, 0, SLOTS - 1);
        Bench place = benchAt(kept, slot);
        if (place != null && slot < filled.length) {
            place.copy(now);
            filled[slot] = true;
        }
        return now.circuit.time;
    }

    public int restore(int slot) throws IllegalArgumentException {
        checkRange(slot, 0, SLOTS - 1);
        Bench place = slot < filled.length && filled[slot] ? benchAt(kept, slot) : null;
        if (place == null) {
            return NONE;
        }
        now.copy(place);
        forgetPast();
        return now.circuit.time;
    }

    // ---- what the calls share

    private static void checkIndex(int index, int bound) {
        if (index < 0 || index >= bound) {
            throw new IndexOutOfBoundsException();
        }
    }

    private static void checkRange(int value, int least, int most) {
        if (value < least || value > most) {
            throw new IllegalArgumentException();
        }
    }

    private void checkManner(int m) {
        if (!now.results.gather(m)) {
            throw new IndexOutOfBoundsException();
        }
    }

    private static Bench benchAt(Bench[] row, int i) {
        return i >= 0 && i < row.length ? row[i] : null;
    }

    // The ring forgets the oldest state when a ninth operation comes.
    private void remember() {
        newest = newest >= UNDOABLE - 1 ? 0 : newest + 1;
        Bench place = benchAt(past, newest);
        if (place != null) {
            place.copy(now);
        }
        undoable = undoable < UNDOABLE ? undoable + 1 : UNDOABLE;
    }

    private void forgetPast() {
        newest = 0;
        undoable = 0;
    }

    private boolean perform(int step) {
        int a = protocol.firstOf(step);
        int b = protocol.secondOf(step);
        switch (protocol.orderOf(step)) {
            case Protocol.ARMS:
                now.circuit.choose(a, b);
                return true;
            case Protocol.VOLTS:
                now.circuit.volts = a;
                return true;
            case Protocol.SET:
                if (a >= parts.settings()) {
                    return false;
                }
                now.circuit.dial(a);
                return true;
            case Protocol.TURN:
                now.circuit.turned = !now.circuit.turned;
                return true;
            case Protocol.WIRES:
                now.circuit.wire(a);
                return true;
            case Protocol.REST:
                now.passTime(a);
                return true;
            case Protocol.READ:
                return now.makeReadings(a);
            case Protocol.BALANCE:
                if (now.circuit.volts == 0) {
                    return false;
                }
                now.seekBalance(a == 1);
                return true;
            default:
                return false;
        }
    }

    // The buffer, its tokens one after the other, and the first error.
    private static final class Text {
        static final int CAPACITY = 600;
        static final int END = 0;
        static final int OTHER = 1;
        static final int WORD = 'a';
        static final int NUMBER = '0';
        static final int BLANK = ' ';
        static final int MOST_DIGITS = 9;
        static final int NOT_HERE = 1;
        static final int OUT_OF_RANGE = 2;

        private final byte[] bytes = new byte[CAPACITY];
        int length;
        int kind;
        int start;
        private int end;
        int errorCode;
        int errorPosition = NONE;

        static int bytesOf(int four) {
            int number = 0;
            for (int shift = 24; shift >= 0; shift -= 8) {
                if ((four >>> shift & 255) != 0) {
                    number++;
                }
            }
            return number;
        }

        void append(int four) {
            for (int shift = 24; shift >= 0; shift -= 8) {
                int one = four >>> shift & 255;
                if (one != 0 && length < bytes.length) {
                    bytes[length] = (byte) one;
                    length++;
                }
            }
        }

        void empty() {
            length = 0;
        }

        void begin() {
            errorCode = 0;
            errorPosition = NONE;
            end = 0;
            advance();
        }

        // Behind an error the token stays as it is, so that no rule takes more.
        void advance() {
            if (errorCode != 0) {
                return;
            }
            int at = end;
            while (at < length && kindAt(at) == BLANK) {
                at++;
            }
            start = at;
            kind = at < length ? kindAt(at) : END;
            if (at < length) {
                at++;
            }
            while (at < length && (kind == WORD || kind == NUMBER) && kindAt(at) == kind) {
                at++;
            }
            end = at;
        }

        void fail(int code) {
            failAt(code, start);
        }

        void failAt(int code, int position) {
            if (errorCode == 0) {
                errorCode = code;
                errorPosition = position;
                kind = OTHER;
            }
        }

        boolean isWord(String word) {
            if (kind != WORD || end - start != word.length()) {
                return false;
            }
            for (int i = 0; i < word.length(); i++) {
                if (byteAt(start + i) != word.charAt(i)) {
                    return false;
                }
            }
            return true;
        }

        void takeSign(char sign) {
            if (kind != sign) {
                fail(NOT_HERE);
            }
            advance();
        }

        boolean atSigned() {
            return kind == NUMBER || kind == '-';
        }

        // A sign may stand ahead of a number where the range goes below 0.
        int number(int least, int most) {
            boolean negative = least < 0 && kind == '-';
            if (negative) {
                advance();
            }
            if (kind != NUMBER) {
                fail(NOT_HERE);
                return least;
            }
            int value = 0;
            for (int at = start; at < end && at < start + MOST_DIGITS; at++) {
                value = 10 * value + (byteAt(at) - '0');
            }
            value = negative ? -value : value;
            if (end - start > MOST_DIGITS || value < least || value > most) {
                fail(OUT_OF_RANGE);
                return least;
            }
            advance();
            return value;
        }

        private int byteAt(int at) {
            return at >= 0 && at < bytes.length ? bytes[at] : 0;
        }

        private int kindAt(int at) {
            int one = at >= 0 && at < bytes.length ? bytes[at] : 0;
            if (one >= 'a' && one <= 'z') {
                return WORD;
            }
            if (one >= '0' && one <= '9') {
                return NUMBER;
            }
            if (one == ' ' || one == '\n') {
                return BLANK;
            }
            return one == ';' || one == '(' || one == ')' || one == '-' ? one : OTHER;
        }
    }

    // How a resistor warms up.
    private static final class Heating {
        static final int HOTTEST = 200000;

        int coefficient;
        int warming;
        int cooling;

        void clear() {
            coefficient = 0;
            warming = 0;
            cooling = 0;
        }

        void copy(Heating other) {
            coefficient = other.coefficient;
            warming = other.warming;
            cooling = other.cooling;
        }

        int behindTick(int temperature, long power) {
            long then = temperature + power * warming / 1000 - (long) temperature * cooling / 100;
            if (then < 0) {
                return 0;
            }
            return then > HOTTEST ? HOTTEST : (int) then;
        }
    }

    // What a setup tells; it stays as it is until the next one.
    private static final class Parts {
        private static final int[] NOMINALS = {1000, 10000, 100000, 1000000, 10000000};

        int decades;
        int low;
        int contact;
        private final int[] errors = new int[MOST_DECADES];
        private final int[] ratioErrors = new int[KINDS];
        int unknownCold;
        final Heating unknown = new Heating();
        final Heating box = new Heating();
        int lead0;
        int lead1;
        int lead2;
        int volts;
        int most;
        int full;
        int noise;
        int drift;
        int zero;
        int seed;

        Parts() {
            clear();
        }

        void clear() {
            decades = 2;
            low = 1;
            contact = 0;
            for (int i = 0; i < errors.length; i++) {
                errors[i] = 0;
            }
            for (int i = 0; i < ratioErrors.length; i++) {
                ratioErrors[i] = 0;
            }
            unknownCold = 1000;
            unknown.clear();
            box.clear();
            lead0 = 0;
            lead1 = 0;
            lead2 = 0;
            volts = 1000;
            most = 1000000;
            full = 9999999;
            noise = 0;
            drift = 0;
            zero = 0;
            seed = 1;
        }

        void copy(Parts other) {
            decades = other.decades;
            low = other.low;
            contact = other.contact;
            for (int i = 0; i < errors.length; i++) {
                errors[i] = other.errorOfDecade(i);
            }
            for (int i = 0; i < ratioErrors.length; i++) {
                ratioErrors[i] = other.errorOfKind(i);
            }
            unknownCold = other.unknownCold;
            unknown.copy(other.unknown);
            box.copy(other.box);
            lead0 = other.lead0;
            lead1 = other.lead1;
            lead2 = other.lead2;
            volts = other.volts;
            most = other.most;
            full = other.full;
            noise = other.noise;
            drift = other.drift;
            zero = other.zero;
            seed = other.seed;
        }

        static int tenTo(int exponent) {
            int power = 1;
            for (int i = 0; i < exponent && i < 9; i++) {
                power *= 10;
            }
            return power;
        }

        static int nominalOf(int kind) {
            return kind >= 0 && kind < NOMINALS.length ? NOMINALS[kind] : 0;
        }

        int settings() {
            return tenTo(decades);
        }

        int weightOf(int decade) {
            return tenTo(decades - 1 - decade);
        }

        int stepOf(int decade) {
            return low * weightOf(decade);
        }

        int digitOf(int setting, int decade) {
            int weight = weightOf(decade);
            return weight < 1 ? 0 : setting / weight % 10;
        }

        int errorOfDecade(int decade) {
            return decade >= 0 && decade < errors.length ? errors[decade] : 0;
        }

        void setErrorOfDecade(int decade, int error) {
            if (decade >= 0 && decade < errors.length) {
                errors[decade] = error;
            }
        }

        int errorOfKind(int kind) {
            return kind >= 0 && kind < ratioErrors.length ? ratioErrors[kind] : 0;
        }

        void setErrorOfKind(int kind, int error) {
            if (kind >= 0 && kind < ratioErrors.length) {
                ratioErrors[kind] = error;
            }
        }

        int valueOfKind(int kind) {
            if (kind < 0 || kind >= NOMINALS.length || kind >= ratioErrors.length) {
                return 0;
            }
            long nominal = NOMINALS[kind];
            return (int) (nominal + nominal * ratioErrors[kind] / 1000000);
        }

        int coldAt(int setting) {
            long sum = 0;
            long step = low;
            int rest = setting;
            for (int d = decades - 1; d >= 0; d--) {
                int error = d < errors.length ? errors[d] : 0;
                sum += rest % 10 * step * (1000000 + error);
                rest /= 10;
                step *= 10;
            }
            return (int) (sum / 1000000) + contact;
        }
    }

    // Reads the buffer as a setup into a draft.
    private static final class SetupReader {
        static final int BOX = 1;
        static final int UNKNOWN = 2;
        static final int LEADS_SEEN = 4;
        static final int SUPPLY = 8;
        static final int DETECTOR = 16;
        static final int SEED = 32;
        static final int WARM_UNKNOWN = 64;
        static final int WARM_BOX = 128;
        static final int RATIO_OF_KIND_0 = 256;
        static final int MOST_ERROR = 50000;
        static final int TWICE = 3;
        static final int MISSING = 4;

        private final Text text;
        final Parts draft = new Parts();
        private int seen;

        SetupReader(Text text) {
            this.text = text;
        }

        boolean understood() {
            draft.clear();
            seen = 0;
            text.begin();
            takeStatement();
            for (int i = 0; i < Text.CAPACITY && text.kind == ';'; i++) {
                text.advance();
                takeStatement();
            }
            if (text.kind != Text.END) {
                text.fail(Text.NOT_HERE);
            } else if ((seen & BOX) == 0 || (seen & UNKNOWN) == 0) {
                text.fail(MISSING);
            }
            return text.errorCode == 0;
        }

        private void takeStatement() {
            if (text.isWord("box")) {
                takeBox();
            } else if (text.isWord("ratio")) {
                takeRatio();
            } else if (text.isWord("unknown")) {
                takeOnce(UNKNOWN);
                draft.unknownCold = text.number(1000, 100000000);
            } else if (text.isWord("warm")) {
                takeWarm();
            } else if (text.isWord("leads")) {
                takeLeads();
            } else if (text.isWord("supply")) {
                takeOnce(SUPPLY);
                draft.volts = text.number(0, 20000);
                draft.most = text.number(1, 1000000);
            } else if (text.isWord("detector")) {
                takeDetector();
            } else if (text.isWord("seed")) {
                takeOnce(SEED);
                draft.seed = text.number(0, 99999);
            } else {
                text.fail(Text.NOT_HERE);
            }
        }

        private void takeOnce(int mark) {
            if ((seen & mark) != 0) {
                text.fail(TWICE);
            }
            seen |= mark;
            text.advance();
        }

        private void takeBox() {
            takeOnce(BOX);
            draft.low = Parts.tenTo(text.number(0, 4));
            draft.contact = text.number(0, 999);
            for (int d = 0; d < MOST_DECADES; d++) {
                if (d < 2 || text.atSigned()) {
                    draft.setErrorOfDecade(d, text.number(-MOST_ERROR, MOST_ERROR));
                    draft.decades = d + 1;
                }
            }
        }

        private void takeRatio() {
            text.advance();
            int position = text.start;
            int kind = text.number(0, KINDS - 1);
            int mark = RATIO_OF_KIND_0 << kind;
            if ((seen & mark) != 0) {
                text.failAt(TWICE, position);
            }
            seen |= mark;
            draft.setErrorOfKind(kind, text.number(-MOST_ERROR, MOST_ERROR));
        }

        private void takeWarm() {
            text.advance();
            boolean box = text.isWord("box");
            if (!box && !text.isWord("unknown")) {
                text.fail(Text.NOT_HERE);
            }
            takeOnce(box ? WARM_BOX : WARM_UNKNOWN);
            Heating heating = box ? draft.box : draft.unknown;
            heating.coefficient = text.number(-4000, 4000);
            heating.warming = text.number(0, 999);
            heating.cooling = text.number(0, 99);
        }

        private void takeLeads() {
            takeOnce(LEADS_SEEN);
            draft.lead0 = text.number(0, 99999);
            draft.lead1 = text.number(0, 99999);
            draft.lead2 = text.number(0, 99999);
        }

        private void takeDetector() {
            takeOnce(DETECTOR);
            draft.full = text.number(1, 9999999);
            draft.noise = text.number(0, 9999);
            draft.drift = text.number(0, 999);
            draft.zero = text.number(-99999, 99999);
        }
    }

    // Reads the buffer as a protocol and tells its steps one after the other.
    private static final class Protocol {
        static final int ARMS = 0;
        static final int VOLTS = 1;
        static final int SET = 2;
        static final int TURN = 3;
        static final int WIRES = 4;
        static final int REST = 5;
        static final int READ = 6;
        static final int BALANCE = 7;
        static final int REPEAT = 8;
        static final int UNLESS = 9;
        static final int MOST_ROWS = 30;
        static final int MOST_DEPTH = 2;
        static final int FAR_ABOVE = 1000000;
        static final int TOO_DEEP = 3;
        static final int TOO_MANY = 4;

        private final Text text;
        private final int[] orders = new int[MOST_ROWS];
        private final int[] firsts = new int[MOST_ROWS];
        private final int[] seconds = new int[MOST_ROWS];
        private final int[] behinds = new int[MOST_ROWS];
        private final int[] open = new int[MOST_DEPTH];
        private final int[] turns = new int[MOST_DEPTH];
        private int rows;
        private int depth;
        private int at;

        Protocol(Text text) {
            this.text = text;
        }

        int orderOf(int step) {
            return inRow(orders, step);
        }

        int firstOf(int step) {
            return inRow(firsts, step);
        }

        int secondOf(int step) {
            return inRow(seconds, step);
        }

        private static int inRow(int[] row, int i) {
            return i >= 0 && i < row.length ? row[i] : NONE;
        }

        boolean understood() {
            rows = 0;
            depth = 0;
            text.begin();
            for (int i = 0; i < Text.CAPACITY && text.errorCode == 0 && text.kind != Text.END; i++) {
                if (depth > 0 && text.kind == ')') {
                    closeBracket();
                } else {
                    takeStep();
                }
            }
            if (depth > 0) {
                text.fail(Text.NOT_HERE);
            }
            return text.errorCode == 0;
        }

        private void closeBracket() {
            text.takeSign(')');
            depth--;
            int opened = inRow(open, depth);
            if (opened >= 0 && opened < behinds.length) {
                behinds[opened] = rows;
            }
            text.takeSign(';');
        }

        private void takeStep() {
            int order = orderHere();
            if (order == NONE) {
                text.fail(Text.NOT_HERE);
                return;
            }
            if (rows >= MOST_ROWS) {
                text.fail(TOO_MANY);
                return;
            }
            int row = rows;
            rows++;
            orders[row] = order;
            text.advance();
            takeNumbers(row, order);
            if (order == REPEAT || order == UNLESS) {
                openBracket(row);
            } else {
                text.takeSign(';');
            }
        }

        private int orderHere() {
            for (int order = ARMS; order <= UNLESS; order++) {
                if (text.isWord(wordOf(order))) {
                    return order;
                }
            }
            return NONE;
        }

        private static String wordOf(int order) {
            switch (order) {
                case ARMS: return "arms";
                case VOLTS: return "volts";
                case SET: return "set";
                case TURN: return "turn";
                case WIRES: return "wires";
                case REST: return "rest";
                case READ: return "read";
                case BALANCE: return "balance";
                case REPEAT: return "repeat";
                default: return "unless";
            }
        }

        private void takeNumbers(int row, int order) {
            if (row < 0 || row >= firsts.length || row >= seconds.length) {
                return;
            }
            firsts[row] = 0;
            seconds[row] = 0;
            switch (order) {
                case ARMS:
                    firsts[row] = text.number(0, KINDS - 1);
                    seconds[row] = text.number(0, KINDS - 1);
                    break;
                case VOLTS:
                    firsts[row] = text.number(0, 20000);
                    break;
                case SET:
                    firsts[row] = text.number(0, 9999);
                    break;
                case WIRES:
                    firsts[row] = text.number(2, 3);
                    break;
                case REST:
                    firsts[row] = text.number(1, 99);
                    break;
                case READ:
                    firsts[row] = text.number(1, 20);
                    break;
                case REPEAT:
                    firsts[row] = text.number(0, 20);
                    break;
                case BALANCE:
                    if (text.isWord("turned")) {
                        firsts[row] = 1;
                        text.advance();
                    }
                    break;
                case UNLESS:
                    if (!text.isWord("null")) {
                        text.fail(Text.NOT_HERE);
                    }
                    text.advance();
                    break;
                default:
                    break;
            }
        }

        private void openBracket(int row) {
            if (text.kind == '(' && depth >= MOST_DEPTH) {
                text.fail(TOO_DEEP);
            }
            text.takeSign('(');
            if (depth >= 0 && depth < open.length) {
                open[depth] = row;
                depth++;
            }
        }

        void start() {
            at = 0;
            depth = 0;
        }

        // The next step that is a call; NONE behind the last one.
        int next(boolean latestIsNull) {
            for (int i = 0; i < FAR_ABOVE; i++) {
                int opened = depth > 0 ? inRow(open, depth - 1) : NONE;
                if (opened != NONE && at == inRow(behinds, opened)) {
                    endTurn(opened);
                } else if (at < 0 || at >= rows) {
                    return NONE;
                } else if (inRow(orders, at) == REPEAT) {
                    enter(inRow(firsts, at));
                } else if (inRow(orders, at) == UNLESS) {
                    enter(latestIsNull ? 0 : 1);
                } else {
                    at++;
                    return at - 1;
                }
            }
            return NONE;
        }

        private void enter(int times) {
            if (times > 0 && depth >= 0 && depth < open.length && depth < turns.length) {
                open[depth] = at;
                turns[depth] = times;
                depth++;
                at++;
            } else {
                at = inRow(behinds, at);
            }
        }

        private void endTurn(int opened) {
            int inner = depth - 1;
            if (inner >= 0 && inner < turns.length && turns[inner] > 1) {
                turns[inner]--;
                at = opened + 1;
            } else {
                depth = inner;
            }
        }
    }

    // The bridge without its detector's readings: what is set, and what heat and time make of it.
    private static final class Circuit {
        static final int MOST_ZERO = 99999;
        static final int MOST_HEATING_CURRENT = 1000000;
        static final long ONE = 1000000000L;

        final Parts parts;
        int first;
        int second;
        int volts;
        int leads;
        int setting;
        boolean turned;
        int unknownTemperature;
        int boxTemperature;
        int zero;
        int time;
        private int drawn;
        long energy;
        int armsShare;
        int boxCold;
        int unknownWarm;
        int boxWarm;
        int unknownSide;
        int boxSide;

        Circuit(Parts parts) {
            this.parts = parts;
            reset();
        }

        void reset() {
            volts = parts.volts;
            turned = false;
            unknownTemperature = 0;
            boxTemperature = 0;
            zero = parts.zero;
            time = 0;
            drawn = parts.seed;
            energy = 0;
            leads = 2;
            choose(0, 0);
            dial(0);
        }

        void copy(Circuit other) {
            first = other.first;
            second = other.second;
            volts = other.volts;
            leads = other.leads;
            setting = other.setting;
            turned = other.turned;
            unknownTemperature = other.unknownTemperature;
            boxTemperature = other.boxTemperature;
            zero = other.zero;
            time = other.time;
            drawn = other.drawn;
            energy = other.energy;
            armsShare = other.armsShare;
            boxCold = other.boxCold;
            survey();
        }

        void choose(int newFirst, int newSecond) {
            first = newFirst;
            second = newSecond;
            long secondValue = parts.valueOfKind(second);
            long whole = parts.valueOfKind(first) + secondValue;
            armsShare = whole == 0 ? 0 : (int) (ONE * secondValue / whole);
        }

        void dial(int newSetting) {
            setting = newSetting;
            boxCold = parts.coldAt(newSetting);
            survey();
        }

        void wire(int newLeads) {
            leads = newLeads;
            survey();
        }

        private void survey() {
            long unknownFactor = ONE + (long) parts.unknown.coefficient * unknownTemperature;
            long boxFactor = ONE + (long) parts.box.coefficient * boxTemperature;
            unknownWarm = (int) (parts.unknownCold * unknownFactor / ONE);
            boxWarm = (int) (boxCold * boxFactor / ONE);
            boolean three = leads == 3;
            unknownSide = unknownWarm + parts.lead0 + (three ? 0 : parts.lead1);
            boxSide = boxWarm + (three ? parts.lead1 : 0);
        }

        int unknownShare() {
            long whole = (long) boxSide + unknownSide;
            return whole == 0 ? 0 : (int) (ONE * unknownSide / whole);
        }

        long imbalance() {
            long amount = (long) volts * (unknownShare() - armsShare) / 1000;
            return turned ? -amount : amount;
        }

        long amperes() {
            long whole = (long) boxSide + unknownSide;
            return whole == 0 ? 0 : 1000000L * volts / whole;
        }

        static long powerBy(long current, int warm) {
            long c = current > MOST_HEATING_CURRENT ? MOST_HEATING_CURRENT : current;
            return c * c / 1000 * warm / 1000000;
        }

        int whyBlocked() {
            if (volts == 0) {
                return 1;
            }
            return amperes() > parts.most ? 2 : 0;
        }

        int draw(int n) {
            drawn = drawn * 1103515245 + 12345;
            return n < 1 ? 0 : (drawn >>> 16) % n;
        }

        // Both powers are taken ahead of the tick, before a temperature changes.
        void tick(boolean on) {
            long current = on ? amperes() : 0;
            long unknownPower = powerBy(current, unknownWarm);
            long boxPower = powerBy(current, boxWarm);
            unknownTemperature = parts.unknown.behindTick(unknownTemperature, unknownPower);
            boxTemperature = parts.box.behindTick(boxTemperature, boxPower);
            energy += unknownPower;
            int drifted = zero + draw(2 * parts.drift + 1) - parts.drift;
            if (drifted > MOST_ZERO) {
                drifted = MOST_ZERO;
            }
            zero = drifted < -MOST_ZERO ? -MOST_ZERO : drifted;
            time++;
            survey();
        }

        long toldValue() {
            long nominal = Parts.nominalOf(first);
            return nominal == 0 ? 0 : (long) setting * parts.low * Parts.nominalOf(second) / nominal;
        }

        // The arms' quotient of a resistance.
        long scaled(long resistance) {
            long divisor = parts.valueOfKind(first);
            return divisor == 0 ? 0 : resistance * parts.valueOfKind(second) / divisor;
        }

        long correctedValue() {
            if (leads == 3) {
                return scaled((long) boxCold + parts.lead1) - parts.lead0;
            }
            return scaled(boxCold) - parts.lead0 - parts.lead1;
        }
    }

    // What an operation changes and undoing brings back: the circuit, the readings, the results.
    private static final class Bench {
        static final int MOST_KEPT = 10;
        static final int BY_NULL = 1;
        static final int BEHIND_LAST = 2;
        static final int ALL_NINES = 3;
        static final int ALL_ZEROS = 4;
        static final int AHEAD_OF_LOOK = 5;

        final Circuit circuit;
        private final Parts parts;
        private final int[] readings = new int[MOST_KEPT];
        int kept;
        int made;
        int nulls;
        final Results results = new Results();

        Bench(Parts parts) {
            this.parts = parts;
            circuit = new Circuit(parts);
        }

        void reset() {
            circuit.reset();
            kept = 0;
            made = 0;
            nulls = 0;
            results.number = 0;
        }

        void copy(Bench other) {
            circuit.copy(other.circuit);
            kept = other.kept;
            made = other.made;
            nulls = other.nulls;
            for (int i = 0; i < readings.length && i < other.readings.length; i++) {
                readings[i] = other.readings[i];
            }
            results.copy(other.results);
        }

        int readingAt(int i) {
            return i >= 0 && i < kept && i < readings.length ? readings[i] : HIDDEN;
        }

        long sumOfReadings() {
            long sum = 0;
            for (int i = 0; i < kept; i++) {
                sum += readingAt(i);
            }
            return sum;
        }

        int spreadOfReadings() {
            if (kept == 0) {
                return 0;
            }
            int least = readingAt(0);
            int greatest = least;
            for (int i = 1; i < kept; i++) {
                least = Math.min(least, readingAt(i));
                greatest = Math.max(greatest, readingAt(i));
            }
            return greatest - least;
        }

        boolean latestIsNull() {
            return kept > 0 && isNull(readingAt(0));
        }

        private boolean isNull(int amount) {
            return amount <= parts.noise && amount >= -parts.noise;
        }

        int makeReading() {
            long shown = circuit.imbalance() + circuit.zero + circuit.draw(2 * parts.noise + 1) - parts.noise;
            if (shown > parts.full) {
                shown = parts.full;
            }
            if (shown < -parts.full) {
                shown = -parts.full;
            }
            int value = (int) shown;
            for (int i = readings.length - 1; i > 0; i--) {
                readings[i] = readings[i - 1];
            }
            readings[0] = value;
            kept = kept < MOST_KEPT ? kept + 1 : MOST_KEPT;
            made++;
            if (isNull(value)) {
                nulls++;
            }
            circuit.tick(true);
            return value;
        }

        boolean makeReadings(int times) {
            for (int i = 0; i < times; i++) {
                if (circuit.whyBlocked() != 0) {
                    return false;
                }
                makeReading();
            }
            return true;
        }

        void passTime(int ticks) {
            for (int i = 0; i < ticks; i++) {
                circuit.tick(false);
            }
        }

        private int takeLook(boolean turnedLook) {
            int one = makeReading();
            if (!turnedLook || circuit.whyBlocked() != 0) {
                return one;
            }
            circuit.turned = !circuit.turned;
            int other = makeReading();
            circuit.turned = !circuit.turned;
            return (one - other) / 2;
        }

        int seekBalance(boolean turnedLooks) {
            circuit.dial(0);
            for (int d = 0; d < parts.decades; d++) {
                int weight = parts.weightOf(d);
                for (int digit = 1; digit <= 9; digit++) {
                    circuit.dial(circuit.setting + weight);
                    if (circuit.whyBlocked() != 0) {
                        return AHEAD_OF_LOOK;
                    }
                    int look = takeLook(turnedLooks);
                    if (isNull(look)) {
                        results.add(circuit, BY_NULL);
                        return BY_NULL;
                    }
                    if (look > 0 == circuit.turned) {
                        circuit.dial(circuit.setting - weight);
                        break;
                    }
                }
            }
            if (circuit.setting == parts.settings() - 1) {
                return ALL_NINES;
            }
            if (circuit.setting == 0) {
                return ALL_ZEROS;
            }
            results.add(circuit, BEHIND_LAST);
            return BEHIND_LAST;
        }
    }

    // One result of a balance.
    private static final class Result {
        int first;
        int second;
        int leads;
        int setting;
        int time;
        int ended;
        long told;
        long corrected;

        void copy(Result other) {
            first = other.first;
            second = other.second;
            leads = other.leads;
            setting = other.setting;
            time = other.time;
            ended = other.ended;
            told = other.told;
            corrected = other.corrected;
        }

        boolean isAlike(Result other) {
            return first == other.first && second == other.second && leads == other.leads;
        }
    }

    // The results that are kept, and what a manner gathers of them.
    private static final class Results {
        static final int MOST = 20;

        private final Result[] rows = new Result[MOST];
        int number;
        int earliest;
        int latest;
        int gathered;
        long sum;
        long least;
        long greatest;

        Results() {
            for (int i = 0; i < MOST; i++) {
                rows[i] = new Result();
            }
        }

        void copy(Results other) {
            number = other.number;
            for (int i = 0; i < number; i++) {
                copyRow(i, other.at(i));
            }
        }

        Result at(int i) {
            return i >= 0 && i < number && i < rows.length ? rows[i] : null;
        }

        private void copyRow(int i, Result from) {
            Result to = at(i);
            if (to != null && from != null) {
                to.copy(from);
            }
        }

        void add(Circuit circuit, int ended) {
            if (number < MOST) {
                number++;
            } else {
                for (int i = 0; i + 1 < number; i++) {
                    copyRow(i, at(i + 1));
                }
            }
            Result result = at(number - 1);
            if (result == null) {
                return;
            }
            result.first = circuit.first;
            result.second = circuit.second;
            result.leads = circuit.leads;
            result.setting = circuit.setting;
            result.time = circuit.time;
            result.ended = ended;
            result.told = circuit.toldValue();
            result.corrected = circuit.correctedValue();
        }

        private int firstAlike(int i) {
            Result one = at(i);
            for (int j = 0; j < i; j++) {
                Result other = at(j);
                if (one != null && other != null && one.isAlike(other)) {
                    return j;
                }
            }
            return i;
        }

        // How many manners have their earliest result ahead of i.
        private int mannersAhead(int i) {
            int manners = 0;
            for (int j = 0; j < i; j++) {
                if (firstAlike(j) == j) {
                    manners++;
                }
            }
            return manners;
        }

        int manners() {
            return mannersAhead(number);
        }

        int mannerOf(int i) {
            return mannersAhead(firstAlike(i));
        }

        // Gathers the results of a manner; false if there is none such.
        boolean gather(int m) {
            gathered = 0;
            sum = 0;
            for (int i = 0; i < number; i++) {
                Result result = at(i);
                if (result != null && mannerOf(i) == m) {
                    gatherOne(i, result.corrected);
                }
            }
            return gathered > 0;
        }

        private void gatherOne(int i, long corrected) {
            if (gathered == 0) {
                earliest = i;
                least = corrected;
                greatest = corrected;
            }
            latest = i;
            gathered++;
            sum += corrected;
            least = Math.min(least, corrected);
            greatest = Math.max(greatest, corrected);
        }

        int steadiestManner() {
            int steadiest = NONE;
            long leastSpread = 0;
            int manners = manners();
            for (int m = 0; m < manners; m++) {
                if (gather(m) && gathered >= 2 && (steadiest == NONE || greatest - least < leastSpread)) {
                    steadiest = m;
                    leastSpread = greatest - least;
                }
            }
            return steadiest;
        }
    }

    // Tries on a copy of the circuit what would be.
    private static final class Search {
        final Circuit trial;
        private final Parts parts;

        Search(Parts parts) {
            this.parts = parts;
            trial = new Circuit(parts);
        }

        private long deflectionAt(int setting) {
            trial.turned = false;
            trial.dial(setting);
            return trial.imbalance();
        }

        long amountAt(int setting) {
            return Math.abs(deflectionAt(setting));
        }

        int idealSetting() {
            int setting = 0;
            for (int d = 0; d < parts.decades; d++) {
                int weight = parts.weightOf(d);
                for (int digit = 1; digit <= 9; digit++) {
                    long look = deflectionAt(setting + weight);
                    if (look < 0) {
                        break;
                    }
                    setting += weight;
                    if (look == 0) {
                        return setting;
                    }
                }
            }
            return setting;
        }

        int bestSetting() {
            int settings = parts.settings();
            int best = 0;
            long limit = amountAt(idealSetting()) + 1;
            for (int at = 0; at < settings && limit > 0; at++) {
                long here = deflectionAt(at);
                if (Math.abs(here) < limit) {
                    best = at;
                    limit = Math.abs(here);
                }
                at += Math.max(0, alikeBehind(at, here, limit));
            }
            return best;
        }

        int countBelow(long limit) {
            int settings = parts.settings();
            int number = 0;
            for (int at = 0; at < settings && limit > 0; at++) {
                long here = deflectionAt(at);
                if (Math.abs(here) < limit) {
                    number++;
                }
                at += Math.max(0, alikeBehind(at, here, limit));
            }
            return number;
        }

        // How many settings behind this one need no look of their own: those that share its upper
        // digits have cold values between those with all further digits 0 and all 9.
        private int alikeBehind(int setting, long here, long limit) {
            int side = sideOf(here, limit);
            for (int size = parts.settings(); size > 1 && side != 0; size /= 10) {
                if (setting % size == 0 && (side < 0 || sideOf(deflectionAt(setting + size - 1), limit) > 0)) {
                    return size - 1;
                }
            }
            return 0;
        }

        private static int sideOf(long deflection, long limit) {
            if (deflection >= limit) {
                return 1;
            }
            return deflection <= -limit ? -1 : 0;
        }

        int armsOfBest() {
            int best = 0;
            long leastMiss = Long.MAX_VALUE;
            for (int first = 0; first < KINDS; first++) {
                for (int second = 0; second < KINDS; second++) {
                    trial.choose(first, second);
                    trial.dial(bestSetting());
                    long miss = Math.abs(trial.correctedValue() - trial.unknownWarm);
                    if (miss < leastMiss) {
                        leastMiss = miss;
                        best = 10 * first + second;
                    }
                }
            }
            return best;
        }

        long naiveValue() {
            trial.dial(bestSetting());
            return trial.scaled(trial.boxCold);
        }

        int ticksToSteady(boolean on) {
            for (int ticks = 0; ticks <= MOST_TICKS; ticks++) {
                int unknownBefore = trial.unknownTemperature;
                int boxBefore = trial.boxTemperature;
                trial.tick(on);
                if (trial.unknownTemperature == unknownBefore && trial.boxTemperature == boxBefore) {
                    return ticks;
                }
            }
            return NONE;
        }
    }

    // The latest report's bytes.
    private static final class Report {
        static final int CAPACITY = 1000;
        static final long GREATEST_UNIT = 100000000000000000L;

        private final byte[] bytes = new byte[CAPACITY];
        int length;

        int byteAt(int i) {
            return i >= 0 && i < length && i < bytes.length ? bytes[i] : NONE;
        }

        void write(Results results, int decades) {
            length = 0;
            for (int i = 0; i < results.number; i++) {
                Result result = results.at(i);
                if (result != null) {
                    addLine(result, decades);
                }
            }
        }

        private void addLine(Result result, int decades) {
            addNumber(result.setting, Parts.tenTo(decades - 1));
            addSign(' ');
            addNumber(result.first, 1);
            addSign('/');
            addNumber(result.second, 1);
            addSign(' ');
            for (int i = 0; i < result.leads; i++) {
                addSign('w');
            }
            addSign(' ');
            if (result.corrected < 0) {
                addSign('-');
            }
            addNumber(Math.abs(result.corrected), 1);
            if (result.ended == Bench.BY_NULL) {
                addSign('*');
            }
            addSign('\n');
        }

        // Writes the digits from the unit on, and those above it that are not leading zeros.
        private void addNumber(long number, long unit) {
            for (long place = GREATEST_UNIT; place > 0; place /= 10) {
                if (place <= unit || number >= place) {
                    addSign((char) ('0' + number / place % 10));
                }
            }
        }

        private void addSign(char sign) {
            if (length < bytes.length) {
                bytes[length] = (byte) sign;
                length++;
            }
        }
    }
}
