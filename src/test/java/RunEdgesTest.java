// Where the sentences of "Texts" have their boundaries in a protocol, and those of promise 4.
public final class RunEdgesTest {
    private static final String EVEN = "box 2 0 0 0;unknown 1000;supply 1000 1000000";

    public static void main(String[] args) {
        ranges();
        syntax();
        words();
        oneBehindAnother();
        singleBytes();
        brackets();
        manySteps();
        severalCodes();
        repeats();
        unless();
        latestOfAll();
        calls();
        refusedSteps();
        sixty();
        recorded();
        Check.end();
    }

    private static DecadeBridge bridge() {
        DecadeBridge bridge = Bridges.made(EVEN);
        bridge.setTo(10);
        return bridge;
    }

    private static void good(String protocol, int steps) {
        good(bridge(), protocol, steps);
    }

    private static void good(DecadeBridge bridge, String protocol, int steps) {
        int before = bridge.size(19);
        Check.due("run of \"" + protocol + "\"", Bridges.run(bridge, protocol), steps);
        Check.due("errorPosition behind \"" + protocol + "\"", bridge.errorPosition(), -1);
        Check.due("the buffer behind \"" + protocol + "\"", bridge.feed(0, 0, 0, 0, 0), 0);
        Check.due("one operation: \"" + protocol + "\"", bridge.size(19), Math.min(8, before + 1));
    }

    private static void wrong(String protocol, int code, int position) {
        DecadeBridge bridge = bridge();
        String before = Portrait.now(bridge);
        Check.due("run of \"" + protocol + "\"", Bridges.run(bridge, protocol), -10 - code);
        Check.due("errorPosition behind \"" + protocol + "\"", bridge.errorPosition(), position);
        Check.due("the buffer behind \"" + protocol + "\"", bridge.feed(0, 0, 0, 0, 0), 0);
        Check.dueSame("what \"" + protocol + "\" leaves", Portrait.now(bridge), before);
    }

    // ---- numbers: "volts 0 to 20000, set 0 to 9999, wires 2 to 3, rest 1 to 99, read 1 to 20, repeat 0 to 20"; a kind

    private static void ranges() {
        range("volts ", 0, 20000, ";", 3, -1);
        range("arms ", 0, 4, " 0;", 10, -1);
        range("arms 0 ", 0, 4, ";", 11, -1);
        range("wires ", 2, 3, ";", 13, -1);
        range("rest ", 1, 99, ";", 9, -1);
        range("read ", 1, 20, ";", 15, -1);
        range("repeat ", 0, 20, "(rest 1;);", 9, 0);
        Check.due("set 0", Bridges.run(bridge(), "set 0;"), 1);
        Check.due("set 9999 is no error", Bridges.run(bridge(), "set 9999;"), 0);
        wrong("set 10000;", 2, 4);
        wrong("set -0;", 1, 4);
        wrong("set 0000000000;", 2, 4);
        Check.due("set 000000099", Bridges.run(bridge(), "set 000000099;"), 1);
    }

    private static void range(String ahead, int least, int most, String behind, int what, int steps) {
        for (int value : new int[] {least, most, least + 1, most - 1}) {
            DecadeBridge bridge = bridge();
            String protocol = ahead + value + behind;
            Check.due("run of \"" + protocol + "\"", Bridges.run(bridge, protocol), steps < 0 ? 1 : value);
            Check.due("what \"" + protocol + "\" makes of it", bridge.size(what), value);
        }
        int at = ahead.length();
        good(ahead + String.format("%09d", most) + behind, steps < 0 ? 1 : most);
        wrong(ahead + String.format("%010d", most) + behind, 2, at);
        wrong(ahead + (most + 1) + behind, 2, at);
        wrong(ahead + "1234567890" + behind, 2, at);
        if (least > 0) {
            wrong(ahead + (least - 1) + behind, 2, at);
        }
        wrong(ahead + "-" + least + behind, 1, at);
        wrong(ahead + "-1" + behind, 1, at);
        wrong(ahead + behind, 1, behind.charAt(0) == ' ' ? at + 2 : at);
        wrong(ahead + "x" + behind, 1, at);
    }

    // ---- the grammar

    private static void syntax() {
        good("", 0);
        good(" ", 0);
        good(" \n\n ", 0);
        wrong(";", 1, 0);
        wrong("turn", 1, 4);
        wrong("turn  ", 1, 6);
        good("turn;", 1);
        good("turn ; ", 1);
        wrong("turn;;", 1, 5);
        wrong("turn;turn", 1, 9);
        wrong("turn turn;", 1, 5);
        wrong("turn 1;", 1, 5);
        wrong("turned;", 1, 0);
        wrong("tur;", 1, 0);
        wrong("TURN;", 1, 0);
        wrong("-turn;", 1, 0);
        wrong("1;", 1, 0);
        wrong("null;", 1, 0);
        wrong("box 0 0 0 0;", 1, 0);
        good("balance;", 1);
        good("balance turned;", 1);
        wrong("balance turn;", 1, 8);
        wrong("balance turned 1;", 1, 15);
        wrong("balance turned turned;", 1, 15);
        wrong("balance 1;", 1, 8);
        wrong("balanceturned;", 1, 0);
        wrong("balance", 1, 7);
        good("arms 0 1;arms4 4;", 2);
        wrong("arms 01;", 1, 7);
        wrong("arms 0 1 2;", 1, 9);
        wrong("arms", 1, 4);
        wrong("arms 0", 1, 6);
        wrong("unless null;", 1, 11);
        wrong("unless null()", 1, 13);
        wrong("unless null(", 1, 12);
        wrong("unless ();", 1, 7);
        wrong("unless turned();", 1, 7);
        wrong("unless nul();", 1, 7);
        wrong("unless 1();", 1, 7);
        wrong("unless", 1, 6);
        good("unless null();", 0);
        good("unless\nnull();", 0);
        wrong("unlessnull();", 1, 0);
        good("repeat 1();", 0);
        wrong("repeat 1;", 1, 8);
        wrong("repeat 1()", 1, 10);
        wrong("repeat 1(;);", 1, 9);
        wrong("repeat 1(turn);", 1, 13);
        wrong("repeat 1(turn;);)", 1, 16);
        wrong("repeat 1(turn;));", 1, 15);
        wrong("repeat 1(turn;", 1, 14);
        wrong("repeat 1(turn; ", 1, 15);
        wrong("repeat 1(turn;;);", 1, 14);
        wrong("repeat 1 turn;", 1, 9);
        wrong("repeat();", 1, 6);
        wrong("(turn;);", 1, 0);
        wrong(");", 1, 0);
        wrong("turn;);", 1, 5);
        wrong("turn(turn;);", 1, 4);
    }

    // Each word with one letter less, one more, and another one in each place, and each step with a word behind it.
    private static void words() {
        String[] steps = {"arms 0 1;", "volts 5;", "set 5;", "turn;", "wires 2;", "rest 5;", "read 5;", "balance;",
            "repeat 1(turn;);", "unless null(turn;);"};
        for (String step : steps) {
            int end = 0;
            while (step.charAt(end) >= 'a' && step.charAt(end) <= 'z') {
                end++;
            }
            spoilt("", step.substring(0, end), step.substring(end));
            int cut = step.contains("(") ? step.indexOf('(') : step.indexOf(';');
            for (String word : new String[] {"null", "x", "turn", "turned", "1", "-1"}) {
                if (!(step.startsWith("balance") && word.equals("turned"))) {
                    wrong(step.substring(0, cut) + " " + word + step.substring(cut), 1, cut + 1);
                }
            }
        }
        spoilt("unless ", "null", "(turn;);");
        spoilt("balance ", "turned", ";");
        good("balance turned;", 1);
    }

    private static void spoilt(String ahead, String word, String behind) {
        for (int i = 0; i < word.length(); i++) {
            char other = word.charAt(i) == 'z' ? 'a' : (char) (word.charAt(i) + 1);
            wrong(ahead + word.substring(0, i) + other + word.substring(i + 1) + behind, 1, ahead.length());
            wrong(ahead + word.substring(0, i) + word.substring(i + 1) + behind, 1, ahead.length());
        }
        wrong(ahead + word + "a" + behind, 1, ahead.length());
        wrong(ahead + "a" + word + behind, 1, ahead.length());
        wrong(ahead + word.toUpperCase() + behind, 1, ahead.length());
    }

    // What one protocol told is forgotten by the next.
    private static void oneBehindAnother() {
        DecadeBridge bridge = bridge();
        good(bridge, "balance turned;", 1);
        Check.due("a turned look", bridge.size(15), 2);
        good(bridge, "balance;", 1);
        Check.due("a look", bridge.size(15), 3);
        good(bridge, "read 1;", 1);
        good(bridge, "balance;", 1);
        Check.due("a look", bridge.size(15), 5);
        good(bridge, "repeat 20(repeat 20(rest 1;););", 60);
        good(bridge, "rest 1;rest 1;", 2);
        Check.due("the time", bridge.size(9), 67);
        wrongThenGood("repeat 3(repeat 3(rest 1;", "rest 1;");
        wrongThenGood("repeat 3(repeat 3(rest 1;);x", "repeat 1(rest 1;);");
        wrongThenGood("rest 1;".repeat(31), "rest 1;");
        wrongThenGood("rest 1;rest 1;rest 0;", "rest 1;");
    }

    private static void wrongThenGood(String first, String second) {
        DecadeBridge bridge = bridge();
        Check.due("\"" + first + "\" has an error", Bridges.run(bridge, first) < -10 ? 1 : 0, 1);
        good(bridge, second, 1);
        Check.due("the time behind \"" + second + "\"", bridge.size(9), 1);
    }

    private static void singleBytes() {
        for (int one = 1; one < 256; one++) {
            String text = "turn;" + (char) one;
            if (one == ' ' || one == '\n') {
                good(text, 1);
                good("rest" + (char) one + "5" + (char) one + ";", 1);
            } else {
                boolean letter = one >= 'a' && one <= 'z';
                wrong(text, 1, 5);
                wrong("rest" + (char) one + "100;", letter || one < '0' || one > '9' ? 1 : 2, letter ? 0 : 4);
            }
        }
    }

    // "3 for the bracket "(" inside 2 others"
    private static void brackets() {
        good("repeat 1(turn;);", 1);
        good("repeat 1(repeat 1(turn;););", 1);
        wrong("repeat 1(repeat 1(repeat 1(turn;);););", 3, 26);
        wrong("repeat 1(repeat 1(repeat 1  (", 3, 28);
        good("repeat 1(unless null(turn;););", 1);
        wrong("repeat 1(unless null(repeat 0(););); ", 3, 29);
        good("unless null(unless null(turn;););", 1);
        wrong("unless null(unless null(unless null(turn;);););", 3, 35);
        wrong("repeat 0(repeat 0(unless null(););); ", 3, 29);
        good("repeat 1(repeat 1(turn;);repeat 1(turn;);unless null(turn;););repeat 1(repeat 1(turn;););", 4);
        good("repeat 1(repeat 1(););repeat 1(repeat 1(turn;););", 1);
        wrong("repeat 1(repeat 1(turn;);repeat 1(turn;repeat 1(", 3, 47);
        wrong("repeat 1(turn;);repeat 1(repeat 1(repeat 1(", 3, 42);
        good("repeat 1(turn;);repeat 1(turn;);repeat 1(turn;);", 3);
    }

    // "4 for the first word of a 31st step ("repeat" and "unless" count as steps)"
    private static void manySteps() {
        String turns = "turn;";
        good(turns.repeat(29), 29);
        good(turns.repeat(30), 30);
        wrong(turns.repeat(31), 4, 150);
        wrong(turns.repeat(32), 4, 150);
        wrong(turns.repeat(30) + "  balance turned;", 4, 152);
        good(turns.repeat(29) + "repeat 1();", 29);
        wrong(turns.repeat(30) + "repeat 1();", 4, 150);
        good(turns.repeat(29) + "unless null();", 29);
        wrong(turns.repeat(30) + "unless null();", 4, 150);
        good("repeat 1(" + turns.repeat(29) + ");", 29);
        wrong("repeat 1(" + turns.repeat(29) + ");turn;", 4, 156);
        wrong("repeat 1(" + turns.repeat(30) + ");", 4, 154);
        good("repeat 0(unless null(" + turns.repeat(28) + "););", 0);
        wrong("repeat 0(unless null(" + turns.repeat(29) + "););", 4, 161);
        wrong("repeat 0(unless null(" + turns.repeat(28) + "););turn;", 4, 165);
        good("repeat 0();".repeat(30), 0);
        wrong("repeat 0();".repeat(31), 4, 330);
        good(" ".repeat(450) + turns.repeat(30), 30);
        wrong("rest 1;".repeat(30) + "rest 1;", 4, 210);
    }

    // "The first error along the text is reported ...; if several codes apply to one token, the smallest one."
    private static void severalCodes() {
        String thirty = "turn;".repeat(30);
        wrong(thirty + "bad;", 1, 150);
        wrong(thirty + ";", 1, 150);
        wrong(thirty + ")", 1, 150);
        wrong(thirty + "5", 1, 150);
        wrong(thirty + "\u00ff", 1, 150);
        wrong(thirty + "volts 20001;", 4, 150);
        wrong(thirty + "repeat 1(repeat 1(repeat 1(", 4, 150);
        wrong("turn;".repeat(29) + "turn turn;", 1, 150);
        wrong("turn;".repeat(29) + "volts 20001;turn;", 2, 151);
        wrong("repeat 1(repeat 1(turn (", 1, 23);
        wrong("repeat 1(repeat 1((", 1, 18);
        wrong("repeat 1(repeat 1(repeat (", 1, 25);
        wrong("repeat 1(repeat 1(repeat 21(", 2, 25);
        wrong("repeat 1(repeat 1(unless (", 1, 25);
        wrong("rest 0;rest 100;bad", 2, 5);
        wrong("bad;rest 0;", 1, 0);
        wrong("turn 1234567890;", 1, 5);
        wrong("rest 5 1234567890;", 1, 7);
    }

    // ---- what the steps do

    // ""repeat" does the steps in brackets N times"
    private static void repeats() {
        for (int times : new int[] {0, 1, 2, 19, 20}) {
            DecadeBridge bridge = bridge();
            good(bridge, "repeat " + times + "(rest 2;);rest 50;", times + 1);
            Check.due("rests of " + times, bridge.size(9), 2 * times + 50);
        }
        DecadeBridge nested = bridge();
        good(nested, "repeat 3(rest 1;repeat 4(rest 10;);rest 1;);", 18);
        Check.due("the time behind nested ones", nested.size(9), 3 * 42);
        good(nested, "repeat 3(repeat 0(rest 99;);rest 1;);", 3);
        Check.due("an inner one of 0", nested.size(9), 126 + 3);
        good(nested, "repeat 0(repeat 20(rest 99;);rest 1;);rest 1;", 1);
        Check.due("an outer one of 0", nested.size(9), 129 + 1);
        good(nested, "repeat 2(repeat 2(rest 1;);repeat 3(rest 1;););", 10);
        Check.due("two inner ones", nested.size(9), 130 + 10);
        good(nested, "repeat 20(repeat 20(););", 0);
        good(nested, "repeat 20(unless null(););", 0);
        Check.due("nothing at all", nested.size(9), 140);
        good(nested, "repeat 20(turn;);", 20);
        Check.due("turned 20 times", nested.size(12), 0);
        good(nested, "repeat 19(turn;);", 19);
        Check.due("turned 19 times", nested.size(12), 1);
    }

    // ""unless" does them once if there is no latest reading or it is not a null"
    private static void unless() {
        DecadeBridge none = bridge();
        good(none, "unless null(rest 7;);", 1);
        Check.due("no latest reading", none.size(9), 7);
        for (int zero = -6; zero <= 6; zero++) {
            DecadeBridge bridge = Bridges.made("box 2 0 0 0;unknown 1000;supply 20 1000000;detector 6 5 0 0");
            Draws draws = new Draws(1);
            bridge.setTo(10);
            while (Math.max(-6, Math.min(6, draws.around(5))) != zero && bridge.size(15) < 40 && Math.abs(zero) < 6) {
                draws.next(1);
                bridge.read();
            }
            if (Math.abs(zero) == 6) {
                bridge.setTo(zero > 0 ? 0 : 99);
            }
            good(bridge, "read 1;unless null(turn;turn;);", Math.abs(zero) == 6 ? 3 : 1);
            Check.due("the latest reading", bridge.reading(0), zero);
        }
        DecadeBridge twice = bridge();
        good(twice, "set 11;read 1;unless null(rest 1;);unless null(rest 1;);", 4);
        good(twice, "set 10;read 1;unless null(rest 1;);unless null(rest 1;);", 2);
        good(twice, "repeat 5(unless null(rest 1;);set 11;read 1;);", 5 * 2 + 4);
        good(twice, "unless null(set 10;read 1;unless null(rest 50;);rest 1;);", 3);
        good(twice, "unless null(unless null(rest 50;);rest 50;);rest 1;", 1);
    }

    // "(the latest one of all that were made, of a turned look the second)"
    private static void latestOfAll() {
        DecadeBridge undone = bridge();
        undone.read();
        undone.setTo(11);
        undone.read();
        good(undone, "unless null(rest 1;);", 1);
        undone.undo();
        undone.undo();
        good(undone, "unless null(rest 1;);", 0);
        undone.undo();
        Bridges.run(undone, "set 10;repeat 2(read 20;);set 11;");
        good(undone, "unless null(rest 1;);", 0);
        // A box of 1001 against 1000 deflects by -249: by a ZERO of -249 the second reading of a look is a null and
        // the first one is not, by a ZERO of 249 the other way round. With a FULL of 1 half of such a look is 0.
        String near = "box 2 1 0 0;unknown 1000;supply 1 1000000;detector 1 0 0 ";
        DecadeBridge looks = Bridges.made(near + "-249");
        good(looks, "balance turned;unless null(rest 9;);", 1);
        Check.due("a look of -1 and 0", looks.reading(1) * 10 + looks.reading(0), -10);
        DecadeBridge others = Bridges.made(near + "249");
        good(others, "balance turned;unless null(rest 9;);", 2);
        Check.due("a look of 0 and 1", others.reading(1) * 10 + others.reading(0), 1);
    }

    // "A step calls setArms, setVolts, setTo, turn, connect, rest, read (N times), balance (turned or not)."
    private static void calls() {
        String setup = "box 2 3 50 60;unknown 4321;leads 5 6 7;supply 900 900000;detector 5000000 30 20 -10;seed 77;"
                + "warm unknown 300 20 5;warm box -200 10 3";
        String[] protocols = {"arms 2 3;", "volts 20000;", "set 77;", "turn;", "wires 3;", "rest 12;", "read 3;", "balance;",
            "balance turned;", "turn;balance;", "turn;balance turned;", "wires 3;balance;", "arms 1 0;balance;"};
        for (int i = 0; i < protocols.length; i++) {
            DecadeBridge byRun = Bridges.made(setup);
            good(byRun, protocols[i], i < 9 ? 1 : 2);
            DecadeBridge byCalls = Bridges.made(setup);
            call(byCalls, i);
            // Only the number of operations that can be undone may differ.
            Check.dueSame("\"" + protocols[i] + "\" does what its calls do", shown(byRun), shown(byCalls));
        }
    }

    private static void call(DecadeBridge bridge, int which) {
        switch (which) {
            case 0 -> bridge.setArms(2, 3);
            case 1 -> bridge.setVolts(20000);
            case 2 -> bridge.setTo(77);
            case 3 -> bridge.turn();
            case 4 -> bridge.connect(3);
            case 5 -> bridge.rest(12);
            case 6 -> {
                bridge.read();
                bridge.read();
                bridge.read();
            }
            case 7 -> bridge.balance(false);
            case 8 -> bridge.balance(true);
            case 9, 10 -> {
                bridge.turn();
                bridge.balance(which == 10);
            }
            case 11 -> {
                bridge.connect(3);
                bridge.balance(false);
            }
            default -> {
                bridge.setArms(1, 0);
                bridge.balance(false);
            }
        }
    }

    private static String shown(DecadeBridge bridge) {
        return Portrait.now(bridge).replaceFirst("size 19 \\d+", "size 19");
    }

    // "A protocol ends as a whole at a step whose call returns a negative error code; what was done before stays.
    // (Of "read" the readings ahead of that stay, too.)"
    private static void refusedSteps() {
        DecadeBridge bridge = bridge();
        good(bridge, "set 99;rest 1;set 100;rest 1;", 2);
        Check.due("behind \"set 100\" of 2 decades", bridge.size(14) * 10 + bridge.size(9), 991);
        good(bridge, "repeat 5(repeat 5(rest 1;set 100;););rest 50;", 1);
        Check.due("it ends as a whole", bridge.size(9), 2);
        good(bridge, "volts 0;read 1;rest 50;", 1);
        good(bridge, "balance;rest 50;", 0);
        good(bridge, "balance turned;rest 50;", 0);
        Check.due("without volts", bridge.size(9), 2);
        good(bridge, "volts 1;read 1;balance;", 3);
        DecadeBridge three = Bridges.made("box 0 0 0 0 0;unknown 1000");
        good(three, "set 999;set 1000;", 1);
        DecadeBridge four = Bridges.made("box 0 0 0 0 0 0;unknown 1000");
        good(four, "set 9999;", 1);
        Check.due("set 9999", four.size(14), 9999);
        // A balance that ends ahead of a look answers 5, which is no error code.
        DecadeBridge blocked = Bridges.made("box 2 0 0 0;unknown 1000;supply 1000 10");
        good(blocked, "balance;balance turned;rest 1;", 3);
        good(blocked, "read 1;rest 1;", 0);
        // The unknown falls while it warms up, until the current is above MOST behind some of the readings.
        DecadeBridge warm = Bridges.made("box 2 0 0 0;unknown 3000;supply 1000 260000;warm unknown -4000 10 0");
        warm.setTo(10);
        int ahead = 0;
        for (long t = 0; 1000000000L / (1000 + 3000 * (1000000000 - 4000 * t) / 1000000000) <= 260000; ahead++) {
            long c = 1000000000L / (1000 + 3000 * (1000000000 - 4000 * t) / 1000000000);
            t += c * c / 1000 * (3000 * (1000000000 - 4000 * t) / 1000000000) / 1000000 * 10 / 1000;
        }
        good(warm, "rest 1;read 20;rest 50;", 1);
        Check.due("the readings ahead of that stay", warm.size(15), ahead);
        Check.due("some of 20", ahead > 1 && ahead < 20 ? 1 : 0, 1);
        Check.due("the time", warm.size(9), 1 + ahead);
        warm.undo();
        good(warm, "read " + ahead + ";rest 50;", 2);
        warm.undo();
        good(warm, "read " + (ahead + 1) + ";rest 50;", 0);
        Check.due("one too many", warm.size(9), ahead);
    }

    // "It also ends as a whole when 60 steps were done ("repeat" and "unless" are not counted, nor is a step that
    // ended it; a "read" is one step, however many readings)."
    private static void sixty() {
        timed("repeat 20(rest 1;rest 1;rest 1;);", 60, 60);
        timed("repeat 20(rest 1;rest 1;rest 1;);rest 50;", 60, 60);
        timed("repeat 19(rest 1;rest 1;rest 1;);rest 1;rest 1;", 59, 59);
        timed("repeat 19(rest 1;rest 1;rest 1;);rest 1;rest 1;rest 5;", 60, 64);
        timed("repeat 19(rest 1;rest 1;rest 1;);rest 1;rest 1;rest 5;rest 50;", 60, 64);
        timed("repeat 20(repeat 20(rest 1;););", 60, 60);
        timed("repeat 20(unless null(rest 1;rest 1;rest 1;););rest 50;", 60, 60);
        timed("repeat 19(rest 1;rest 1;rest 1;);rest 1;rest 1;set 100;rest 50;", 59, 59);
        timed("repeat 20(rest 1;rest 1;rest 1;);set 100;", 60, 60);
        timed("repeat 3(read 20;);", 3, 60);
        timed("repeat 3(read 20;);repeat 3(read 20;);rest 1;", 7, 121);
        DecadeBridge reads = bridge();
        good(reads, "repeat 20(read 20;read 20;read 20;);read 20;", 60);
        Check.due("60 times 20 readings", reads.size(15), 1200);
        good(reads, "repeat 20(balance;turn;turn;);turn;", 60);
        Check.due("a balance is one step", reads.size(17), 20);
        Check.due("the 61st is not done", reads.size(12), 0);
    }

    private static void timed(String protocol, int steps, int time) {
        DecadeBridge bridge = bridge();
        good(bridge, protocol, steps);
        Check.due("the time behind \"" + protocol + "\"", bridge.size(9), time);
        Check.due("undone as a whole", bridge.undo(), 1);
        Check.due("the time undone", bridge.size(9), 0);
    }

    // "Every call that does not return a negative error code ... is recorded, even if it changes nothing (run as a whole)"
    private static void recorded() {
        DecadeBridge bridge = new DecadeBridge();
        good(bridge, "", 0);
        good(bridge, "set 100;", 0);
        good(bridge, "repeat 20();", 0);
        Check.due("three are recorded", bridge.size(19), 3);
        Bridges.run(bridge, "bad");
        Bridges.run(bridge, "rest 0;");
        Check.due("those with an error are not", bridge.size(19), 3);
        for (int i = 0; i < 7; i++) {
            good(bridge, "rest 1;rest 1;", 2);
        }
        Check.due("8 at most", bridge.size(19), 8);
        for (int i = 7; i >= 0; i--) {
            Check.due("undo", bridge.undo(), i);
            Check.due("the time", bridge.size(9), Math.max(0, 2 * (i - 1)));
        }
        Check.due("no more", bridge.undo(), -1);
    }
}
