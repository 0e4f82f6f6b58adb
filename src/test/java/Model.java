import java.util.ArrayList;
import java.util.Arrays;
import java.util.LinkedHashSet;
import java.util.List;
import java.util.Set;

// The document told a second time, as plainly as can be: lists, recursion, and a look at every setting.
final class Model {
    static final class Fault extends RuntimeException {
        private static final long serialVersionUID = 1L;
        final int code;
        final int position;

        Fault(int code, int position) {
            this.code = code;
            this.position = position;
        }
    }

    static final class Stop extends RuntimeException {
        private static final long serialVersionUID = 1L;
    }

    static final class Setup {
        int low = 1;
        int contact;
        List<Integer> errors = new ArrayList<>(List.of(0, 0));
        int[] ratios = new int[5];
        int cold = 1000;
        int[] unknown = new int[3];
        int[] box = new int[3];
        int[] leads = new int[3];
        int volts = 1000;
        int most = 1000000;
        int full = 9999999;
        int noise;
        int drift;
        int zero;
        int seed = 1;
    }

    record Token(char kind, String text, int at) {
    }

    record Step(String word, int a, int b, List<Step> inner) {
    }

    record Outcome(int first, int second, int leads, int setting, int time, int ended, long told, long corrected) {
        List<Integer> manner() {
            return List.of(first, second, leads);
        }
    }

    static final class State {
        int first;
        int second;
        int leads = 2;
        int volts;
        int[] digits;
        boolean turned;
        int[] temperatures = new int[2];
        int zero;
        int time;
        int x;
        long energy;
        int made;
        int nulls;
        List<Integer> readings = new ArrayList<>();
        List<Outcome> outcomes = new ArrayList<>();

        State copy() {
            State other = new State();
            other.first = first;
            other.second = second;
            other.leads = leads;
            other.volts = volts;
            other.digits = digits.clone();
            other.turned = turned;
            other.temperatures = temperatures.clone();
            other.zero = zero;
            other.time = time;
            other.x = x;
            other.energy = energy;
            other.made = made;
            other.nulls = nulls;
            other.readings = new ArrayList<>(readings);
            other.outcomes = new ArrayList<>(outcomes);
            return other;
        }
    }

    Setup setup = new Setup();
    State state = fresh(setup);
    List<State> past = new ArrayList<>();
    State[] slots = new State[2];
    String buffer = "";
    int errorPosition = -1;
    String report = "";

    static State fresh(Setup setup) {
        State state = new State();
        state.volts = setup.volts;
        state.digits = new int[setup.errors.size()];
        state.zero = setup.zero;
        state.x = setup.seed;
        return state;
    }

    // ---- texts

    private List<Token> tokens;
    private int at;
    private int steps;

    private void cut() {
        tokens = new ArrayList<>();
        int i = 0;
        while (i < buffer.length()) {
            char c = buffer.charAt(i);
            if (c == ' ' || c == '\n') {
                i++;
                continue;
            }
            int from = i;
            i++;
            char kind = c;
            if (c >= 'a' && c <= 'z') {
                kind = 'w';
                while (i < buffer.length() && buffer.charAt(i) >= 'a' && buffer.charAt(i) <= 'z') {
                    i++;
                }
            } else if (c >= '0' && c <= '9') {
                kind = 'n';
                while (i < buffer.length() && buffer.charAt(i) >= '0' && buffer.charAt(i) <= '9') {
                    i++;
                }
            } else if (";()-".indexOf(c) < 0) {
                kind = '?';
            }
            tokens.add(new Token(kind, buffer.substring(from, i), from));
        }
        tokens.add(new Token('e', "", buffer.length()));
        at = 0;
    }

    private Token here() {
        return tokens.get(at);
    }

    private String word() {
        if (here().kind != 'w') {
            throw new Fault(1, here().at);
        }
        return here().text;
    }

    private void sign(char kind) {
        if (here().kind != kind) {
            throw new Fault(1, here().at);
        }
        at++;
    }

    private int number(int least, int most, boolean signed) {
        boolean minus = signed && here().kind == '-';
        if (minus) {
            at++;
        }
        Token token = here();
        if (token.kind != 'n') {
            throw new Fault(1, token.at);
        }
        if (token.text.length() > 9) {
            throw new Fault(2, token.at);
        }
        int value = Integer.parseInt(token.text) * (minus ? -1 : 1);
        if (value < least || value > most) {
            throw new Fault(2, token.at);
        }
        at++;
        return value;
    }

    private Setup readSetup() {
        Setup draft = new Setup();
        Set<String> seen = new LinkedHashSet<>();
        cut();
        while (true) {
            statement(draft, seen);
            if (here().kind != ';') {
                break;
            }
            at++;
        }
        if (here().kind != 'e') {
            throw new Fault(1, here().at);
        }
        if (!seen.contains("box") || !seen.contains("unknown")) {
            throw new Fault(4, here().at);
        }
        return draft;
    }

    private void statement(Setup draft, Set<String> seen) {
        Token token = here();
        String word = word();
        if (!List.of("box", "ratio", "unknown", "warm", "leads", "supply", "detector", "seed").contains(word)) {
            throw new Fault(1, token.at);
        }
        if (!word.equals("ratio") && !word.equals("warm") && !seen.add(word)) {
            throw new Fault(3, token.at);
        }
        at++;
        switch (word) {
            case "box" -> {
                draft.low = (int) Math.pow(10, number(0, 4, false));
                draft.contact = number(0, 999, false);
                draft.errors.clear();
                while (draft.errors.size() < 2
                        || draft.errors.size() < 4 && (here().kind == 'n' || here().kind == '-')) {
                    draft.errors.add(number(-50000, 50000, true));
                }
            }
            case "ratio" -> {
                Token kindToken = here();
                int kind = number(0, 4, false);
                if (!seen.add("ratio" + kind)) {
                    throw new Fault(3, kindToken.at);
                }
                draft.ratios[kind] = number(-50000, 50000, true);
            }
            case "unknown" -> draft.cold = number(1000, 100000000, false);
            case "warm" -> {
                Token partToken = here();
                String part = word();
                if (!part.equals("unknown") && !part.equals("box")) {
                    throw new Fault(1, partToken.at);
                }
                if (!seen.add("warm " + part)) {
                    throw new Fault(3, partToken.at);
                }
                at++;
                int[] row = part.equals("box") ? draft.box : draft.unknown;
                row[0] = number(-4000, 4000, true);
                row[1] = number(0, 999, false);
                row[2] = number(0, 99, false);
            }
            case "leads" -> {
                for (int i = 0; i < 3; i++) {
                    draft.leads[i] = number(0, 99999, false);
                }
            }
            case "supply" -> {
                draft.volts = number(0, 20000, false);
                draft.most = number(1, 1000000, false);
            }
            case "detector" -> {
                draft.full = number(1, 9999999, false);
                draft.noise = number(0, 9999, false);
                draft.drift = number(0, 999, false);
                draft.zero = number(-99999, 99999, true);
            }
            default -> draft.seed = number(0, 99999, false);
        }
    }

    private List<Step> readProtocol(int depth) {
        List<Step> list = new ArrayList<>();
        while (here().kind != 'e' && !(depth > 0 && here().kind == ')')) {
            list.add(step(depth));
            sign(';');
        }
        return list;
    }

    private Step step(int depth) {
        Token token = here();
        String word = word();
        if (!List.of("arms", "volts", "set", "turn", "wires", "rest", "read", "balance", "repeat", "unless")
                .contains(word)) {
            throw new Fault(1, token.at);
        }
        steps++;
        if (steps > 30) {
            throw new Fault(4, token.at);
        }
        at++;
        int a = 0;
        int b = 0;
        List<Step> inner = null;
        switch (word) {
            case "arms" -> {
                a = number(0, 4, false);
                b = number(0, 4, false);
            }
            case "volts" -> a = number(0, 20000, false);
            case "set" -> a = number(0, 9999, false);
            case "wires" -> a = number(2, 3, false);
            case "rest" -> a = number(1, 99, false);
            case "read" -> a = number(1, 20, false);
            case "balance" -> {
                if (here().kind == 'w' && here().text.equals("turned")) {
                    a = 1;
                    at++;
                }
            }
            case "repeat" -> {
                a = number(0, 20, false);
                inner = bracket(depth);
            }
            case "unless" -> {
                if (!word().equals("null")) {
                    throw new Fault(1, here().at);
                }
                at++;
                inner = bracket(depth);
            }
            default -> {
            }
        }
        return new Step(word, a, b, inner);
    }

    private List<Step> bracket(int depth) {
        if (here().kind == '(' && depth == 2) {
            throw new Fault(3, here().at);
        }
        sign('(');
        List<Step> inner = readProtocol(depth + 1);
        sign(')');
        return inner;
    }

    int feed(int... words) {
        StringBuilder more = new StringBuilder();
        for (int word : words) {
            for (int i = 3; i >= 0; i--) {
                int one = (word >> (8 * i)) & 255;
                if (one > 0) {
                    more.append((char) one);
                }
            }
        }
        if (buffer.length() + more.length() > 600) {
            return -1;
        }
        buffer = buffer + more;
        return buffer.length();
    }

    int load() {
        int answer;
        try {
            setup = readSetup();
            state = fresh(setup);
            past.clear();
            slots = new State[2];
            errorPosition = -1;
            answer = setup.errors.size();
        } catch (Fault fault) {
            errorPosition = fault.position;
            answer = -10 - fault.code;
        }
        buffer = "";
        return answer;
    }

    private int done;

    int run() {
        List<Step> list;
        try {
            cut();
            steps = 0;
            list = readProtocol(0);
            if (here().kind != 'e') {
                throw new Fault(1, here().at);
            }
        } catch (Fault fault) {
            errorPosition = fault.position;
            buffer = "";
            return -10 - fault.code;
        }
        errorPosition = -1;
        buffer = "";
        remember();
        done = 0;
        try {
            perform(list);
        } catch (Stop stop) {
            return done;
        }
        return done;
    }

    private void perform(List<Step> list) {
        for (Step step : list) {
            if (step.word.equals("repeat")) {
                for (int i = 0; i < step.a; i++) {
                    perform(step.inner);
                }
            } else if (step.word.equals("unless")) {
                if (state.readings.isEmpty() || Math.abs(state.readings.get(0)) > setup.noise) {
                    perform(step.inner);
                }
            } else {
                if (done == 60) {
                    throw new Stop();
                }
                if (performOne(step) < 0) {
                    throw new Stop();
                }
                done++;
            }
        }
    }

    private int performOne(Step step) {
        switch (step.word) {
            case "arms" -> {
                state.first = step.a;
                state.second = step.b;
            }
            case "volts" -> state.volts = step.a;
            case "set" -> {
                if (step.a >= settings()) {
                    return -2;
                }
                state.digits = digitsOf(step.a);
            }
            case "turn" -> state.turned = !state.turned;
            case "wires" -> state.leads = step.a;
            case "rest" -> {
                for (int i = 0; i < step.a; i++) {
                    tick(false);
                }
            }
            case "read" -> {
                for (int i = 0; i < step.a; i++) {
                    if (whyNot() > 0) {
                        return -1 - whyNot();
                    }
                    reading();
                }
            }
            default -> {
                return state.volts == 0 ? -2 : seek(step.a == 1);
            }
        }
        return 0;
    }

    // ---- parts

    int settings() {
        int n = 1;
        for (int i = 0; i < setup.errors.size(); i++) {
            n *= 10;
        }
        return n;
    }

    int[] digitsOf(int setting) {
        int[] digits = new int[setup.errors.size()];
        for (int i = digits.length - 1; i >= 0; i--) {
            digits[i] = setting % 10;
            setting /= 10;
        }
        return digits;
    }

    int setting() {
        int n = 0;
        for (int digit : state.digits) {
            n = 10 * n + digit;
        }
        return n;
    }

    long stepOf(int decade) {
        long step = setup.low;
        for (int i = setup.errors.size() - 1; i > decade; i--) {
            step *= 10;
        }
        return step;
    }

    long cold(int[] digits) {
        long sum = 0;
        for (int i = 0; i < digits.length; i++) {
            sum += digits[i] * stepOf(i) * (1000000L + setup.errors.get(i));
        }
        return sum / 1000000 + setup.contact;
    }

    static long nominal(int kind) {
        long n = 1000;
        for (int i = 0; i < kind; i++) {
            n *= 10;
        }
        return n;
    }

    long value(int kind) {
        return nominal(kind) + nominal(kind) * setup.ratios[kind] / 1000000;
    }

    long warm(boolean box) {
        long cold = box ? cold(state.digits) : setup.cold;
        int coefficient = box ? setup.box[0] : setup.unknown[0];
        return cold * (1000000000L + (long) coefficient * state.temperatures[box ? 1 : 0]) / 1000000000L;
    }

    long side(boolean box) {
        if (state.leads == 2) {
            return box ? warm(true) : warm(false) + setup.leads[0] + setup.leads[1];
        }
        return box ? warm(true) + setup.leads[1] : warm(false) + setup.leads[0];
    }

    int size(int what) {
        int[] all = {setup.errors.size(), setup.low, setup.contact, state.volts, setup.most, setup.full,
            setup.noise, setup.drift, state.zero, state.time, state.first, state.second, state.turned ? 1 : 0,
            state.leads, setting(), state.made, state.nulls, state.outcomes.size(), manners().size(), past.size()};
        return all[what];
    }

    long part(boolean box, int what) {
        int[] row = box ? setup.box : setup.unknown;
        long[] all = {box ? cold(state.digits) : setup.cold, warm(box), row[0], row[1], row[2],
            state.temperatures[box ? 1 : 0], side(box)};
        return all[what];
    }

    // ---- as it is now

    long share(boolean ofArms) {
        if (ofArms) {
            return 1000000000L * value(state.second) / (value(state.first) + value(state.second));
        }
        return 1000000000L * side(false) / (side(true) + side(false));
    }

    long deflection() {
        long amount = state.volts * (share(false) - share(true)) / 1000;
        return state.turned ? -amount : amount;
    }

    long current() {
        return 1000000L * state.volts / (side(true) + side(false));
    }

    long power(boolean box) {
        long c = Math.min(current(), 1000000);
        return c * c / 1000 * warm(box) / 1000000;
    }

    int whyNot() {
        if (state.volts == 0) {
            return 1;
        }
        return current() > setup.most ? 2 : 0;
    }

    private int draw(int n) {
        state.x = state.x * 1103515245 + 12345;
        return (state.x >>> 16) % n;
    }

    private void tick(boolean on) {
        long[] powers = {on ? power(false) : 0, on ? power(true) : 0};
        for (int i = 0; i < 2; i++) {
            int[] row = i == 1 ? setup.box : setup.unknown;
            long t = state.temperatures[i];
            long then = t + powers[i] * row[1] / 1000 - t * row[2] / 100;
            state.temperatures[i] = (int) Math.max(0, Math.min(200000, then));
        }
        state.energy += powers[0];
        int drifted = state.zero + draw(2 * setup.drift + 1) - setup.drift;
        state.zero = Math.max(-99999, Math.min(99999, drifted));
        state.time++;
    }

    private int reading() {
        long raw = deflection() + state.zero + (draw(2 * setup.noise + 1) - setup.noise);
        int value = (int) Math.max(-setup.full, Math.min(setup.full, raw));
        state.readings.add(0, value);
        if (state.readings.size() > 10) {
            state.readings.remove(10);
        }
        state.made++;
        if (Math.abs(value) <= setup.noise) {
            state.nulls++;
        }
        tick(true);
        return value;
    }

    private int seek(boolean turnedLooks) {
        Arrays.fill(state.digits, 0);
        boolean ended = false;
        for (int d = 0; d < state.digits.length; d++) {
            while (state.digits[d] < 9) {
                state.digits[d]++;
                if (whyNot() != 0) {
                    return 5;
                }
                boolean asBefore = state.turned;
                int look = reading();
                if (turnedLooks) {
                    if (whyNot() == 0) {
                        state.turned = !asBefore;
                        look = (look - reading()) / 2;
                        state.turned = asBefore;
                    }
                }
                if (Math.abs(look) <= setup.noise) {
                    ended = true;
                    break;
                }
                boolean tooSmall = asBefore ? look < 0 : look > 0;
                if (!tooSmall) {
                    state.digits[d]--;
                    break;
                }
            }
            if (ended) {
                break;
            }
        }
        int how = 2;
        if (ended) {
            how = 1;
        } else if (setting() == settings() - 1) {
            return 3;
        } else if (setting() == 0) {
            return 4;
        }
        long told = (long) setting() * setup.low * nominal(state.second) / nominal(state.first);
        state.outcomes.add(new Outcome(state.first, state.second, state.leads, setting(), state.time, how, told,
                corrected()));
        if (state.outcomes.size() > 20) {
            state.outcomes.remove(0);
        }
        return how;
    }

    private long corrected() {
        long v1 = value(state.first);
        long v2 = value(state.second);
        if (state.leads == 3) {
            return (cold(state.digits) + setup.leads[1]) * v2 / v1 - setup.leads[0];
        }
        return cold(state.digits) * v2 / v1 - setup.leads[0] - setup.leads[1];
    }

    // ---- results

    List<List<Integer>> manners() {
        Set<List<Integer>> set = new LinkedHashSet<>();
        for (Outcome outcome : state.outcomes) {
            set.add(outcome.manner());
        }
        return new ArrayList<>(set);
    }

    int result(int i, int what) {
        Outcome o = state.outcomes.get(i);
        int[] all = {o.first, o.second, o.leads, o.setting, o.time, o.ended, manners().indexOf(o.manner())};
        return all[what];
    }

    List<Integer> members(int m) {
        List<Integer> members = new ArrayList<>();
        for (int i = 0; i < state.outcomes.size(); i++) {
            if (state.outcomes.get(i).manner().equals(manners().get(m))) {
                members.add(i);
            }
        }
        return members;
    }

    int manner(int m, int what) {
        if (what < 3) {
            return manners().get(m).get(what);
        }
        List<Integer> members = members(m);
        return what == 3 ? members.size() : members.get(what == 4 ? 0 : members.size() - 1);
    }

    double meanOf(int m) {
        long sum = 0;
        for (int i : members(m)) {
            sum += state.outcomes.get(i).corrected;
        }
        return (double) sum / (double) members(m).size();
    }

    long spreadOf(int m) {
        long least = Long.MAX_VALUE;
        long greatest = Long.MIN_VALUE;
        for (int i : members(m)) {
            least = Math.min(least, state.outcomes.get(i).corrected);
            greatest = Math.max(greatest, state.outcomes.get(i).corrected);
        }
        return greatest - least;
    }

    int steadiest() {
        int found = -1;
        for (int m = manners().size() - 1; m >= 0; m--) {
            if (members(m).size() >= 2 && (found < 0 || spreadOf(m) <= spreadOf(found))) {
                found = m;
            }
        }
        return found;
    }

    double meanReading() {
        long sum = 0;
        for (int reading : state.readings) {
            sum += reading;
        }
        return state.readings.isEmpty() ? 0 : (double) sum / (double) state.readings.size();
    }

    float spread() {
        if (state.readings.isEmpty()) {
            return 0;
        }
        List<Integer> sorted = new ArrayList<>(state.readings);
        sorted.sort(null);
        return sorted.get(sorted.size() - 1) - sorted.get(0);
    }

    // ---- what would be

    private interface Trial {
        long of();
    }

    // Does something to a copy of the state and forgets it.
    private long tried(Trial trial) {
        State was = state;
        state = was.copy();
        long answer = trial.of();
        state = was;
        return answer;
    }

    private long missAt(int setting) {
        state.digits = digitsOf(setting);
        return Math.abs(deflection());
    }

    private int bestHere() {
        int best = 0;
        long least = Long.MAX_VALUE;
        for (int s = 0; s < settings(); s++) {
            long miss = missAt(s);
            if (miss < least) {
                least = miss;
                best = s;
            }
        }
        return best;
    }

    private int idealHere() {
        state.turned = false;
        Arrays.fill(state.digits, 0);
        for (int d = 0; d < state.digits.length; d++) {
            while (state.digits[d] < 9) {
                state.digits[d]++;
                if (deflection() == 0) {
                    return setting();
                }
                if (deflection() < 0) {
                    state.digits[d]--;
                    break;
                }
            }
        }
        return setting();
    }

    long best() {
        return tried(this::bestHere);
    }

    long ideal() {
        return tried(this::idealHere);
    }

    long miss() {
        return tried(() -> missAt(idealHere()) - missAt(bestHere()));
    }

    long better() {
        return tried(() -> {
            long now = missAt(setting());
            long number = 0;
            for (int s = 0; s < settings(); s++) {
                number += missAt(s) < now ? 1 : 0;
            }
            return number;
        });
    }

    long bestWith(int first, int second) {
        return tried(() -> {
            state.first = first;
            state.second = second;
            return bestHere();
        });
    }

    long bestArms() {
        return tried(() -> {
            long least = Long.MAX_VALUE;
            int found = -1;
            for (int arms = 0; arms < 50; arms++) {
                if (arms % 10 < 5) {
                    state.first = arms / 10;
                    state.second = arms % 10;
                    state.digits = digitsOf(bestHere());
                    long differs = Math.abs(corrected() - warm(false));
                    if (differs < least) {
                        least = differs;
                        found = arms;
                    }
                }
            }
            return found;
        });
    }

    long apparent(int leads) {
        return tried(() -> {
            state.leads = leads;
            return cold(digitsOf(bestHere())) * value(state.second) / value(state.first);
        });
    }

    long foretold(int ticks, int what) {
        return tried(() -> {
            for (int i = 0; i < ticks; i++) {
                tick(true);
            }
            return what == 2 ? deflection() : state.temperatures[what];
        });
    }

    long steadyIn(boolean on) {
        return tried(() -> {
            for (int i = 0; i <= 300; i++) {
                int[] before = state.temperatures.clone();
                tick(on);
                if (Arrays.equals(before, state.temperatures)) {
                    return i;
                }
            }
            return -1;
        });
    }

    // ---- operations

    private void remember() {
        past.add(state.copy());
        if (past.size() > 8) {
            past.remove(0);
        }
    }

    int setArms(int first, int second) {
        int was = 10 * state.first + state.second;
        remember();
        state.first = first;
        state.second = second;
        return was;
    }

    int setVolts(int volts) {
        int was = state.volts;
        remember();
        state.volts = volts;
        return was;
    }

    int setTo(int setting) {
        if (setting >= settings()) {
            return -2;
        }
        int was = setting();
        remember();
        state.digits = digitsOf(setting);
        return was;
    }

    int setDigit(int decade, int digit) {
        remember();
        state.digits[decade] = digit;
        return setting();
    }

    int turn() {
        remember();
        state.turned = !state.turned;
        return state.turned ? 1 : 0;
    }

    int connect(int leads) {
        int was = state.leads;
        remember();
        state.leads = leads;
        return was;
    }

    int rest(int ticks) {
        remember();
        for (int i = 0; i < ticks; i++) {
            tick(false);
        }
        return state.time;
    }

    int read() {
        if (whyNot() > 0) {
            return -1 - whyNot();
        }
        remember();
        reading();
        return state.readings.size();
    }

    int balance(boolean turned) {
        if (state.volts == 0) {
            return -2;
        }
        remember();
        return seek(turned);
    }

    // ---- reports, undo, saved states

    int report() {
        StringBuilder text = new StringBuilder();
        for (Outcome o : state.outcomes) {
            for (int digit : digitsOf(o.setting)) {
                text.append(digit);
            }
            text.append(' ').append(o.first).append('/').append(o.second).append(' ');
            text.append(o.leads == 2 ? "ww" : "www").append(' ').append(o.corrected);
            text.append(o.ended == 1 ? "*\n" : "\n");
        }
        report = text.toString();
        return report.length();
    }

    int undo() {
        if (past.isEmpty()) {
            return -1;
        }
        state = past.remove(past.size() - 1);
        return past.size();
    }

    int save(int slot) {
        slots[slot] = state.copy();
        return state.time;
    }

    int restore(int slot) {
        if (slots[slot] == null) {
            return -1;
        }
        state = slots[slot].copy();
        past.clear();
        return state.time;
    }
}
