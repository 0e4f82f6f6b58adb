// Where the sentences of "Texts" have their boundaries in a setup, and those of promises 1 to 3 and 5.
public final class SetupEdgesTest {
    private static final String GOOD = "box 0 0 0 0;unknown 1000";

    public static void main(String[] args) {
        newBridge();
        buffer();
        tokens();
        words();
        singleBytes();
        ranges();
        seeds();
        defaults();
        decades();
        twice();
        endings();
        severalCodes();
        firstOfSeveral();
        replaces();
        positions();
        Check.end();
    }

    // What is asked of a bridge that was loaded.
    private interface Question {
        long of(DecadeBridge bridge);
    }

    private static void good(String setup, int decades) {
        DecadeBridge bridge = new DecadeBridge();
        bridge.load();
        Check.due("load of \"" + setup + "\"", Bridges.load(bridge, setup), decades);
        Check.due("errorPosition behind \"" + setup + "\"", bridge.errorPosition(), -1);
        Check.due("the buffer behind \"" + setup + "\"", bridge.feed(0, 0, 0, 0, 0), 0);
    }

    private static void wrong(String setup, int code, int position) {
        DecadeBridge bridge = Bridges.made("box 1 5 6 7 8;unknown 4000;seed 9");
        bridge.setTo(123);
        Check.due("load of \"" + setup + "\"", Bridges.load(bridge, setup), -10 - code);
        Check.due("errorPosition behind \"" + setup + "\"", bridge.errorPosition(), position);
        Check.due("the buffer behind \"" + setup + "\"", bridge.feed(0, 0, 0, 0, 0), 0);
        Check.due("the parts behind \"" + setup + "\"", bridge.size(0) * 10000 + bridge.part(false, 0), 34000);
        Check.due("the setting behind \"" + setup + "\"", bridge.size(14) * 10 + bridge.size(19), 1231);
    }

    // ---- promises 1 and 2

    // "Creates a bridge as by the text "box 0 0 0 0;unknown 1000", with kinds 0 for both arms, two leads, the supply
    // not turned, with an empty buffer."
    private static void newBridge() {
        Check.dueSame("a new bridge", Portrait.whole(DecadeBridge::new), Portrait.whole(() -> Bridges.made(GOOD)));
        DecadeBridge made = new DecadeBridge();
        Check.due("its arms", made.size(10) * 10 + made.size(11), 0);
        Check.due("its leads", made.size(13), 2);
        Check.due("its supply", made.size(12), 0);
        Check.due("its buffer", made.feed(0, 0, 0, 0, 0), 0);
        Check.due("its errorPosition", made.errorPosition(), -1);
        Check.due("its report", made.reportByte(0), -1);
        Check.due("nothing to undo", made.undo(), -1);
        Check.due("nothing saved", made.restore(0) + made.restore(1), -2);
    }

    // "the number of bytes in the buffer; NONE if it would exceed 600, and then nothing is appended"
    private static void buffer() {
        DecadeBridge bridge = new DecadeBridge();
        Check.due("bytes of 0 are left out", bridge.feed(0, 0, 0, 0, 0), 0);
        Check.due("each other byte counts", bridge.feed(0x01ff8001, 0x00000080, 0x00ff0000, 0xff000000, 0x007f0000), 8);
        for (int bytes = 28; bytes <= 588; bytes += 20) {
            Check.due("20 more", bridge.feed(-1, -1, -1, -1, -1), bytes);
        }
        Check.due("608 are too many", bridge.feed(-1, -1, -1, -1, -1), -1);
        Check.due("601 are too many", bridge.feed(-1, -1, -1, 0x00000001, 0), -1);
        Check.due("nothing was appended", bridge.feed(0, 0, 0, 0, 0), 588);
        Check.due("600 are not too many", bridge.feed(-1, -1, -1, 0, 0), 600);
        for (int place = 0; place < 5; place++) {
            int[] words = new int[5];
            words[place] = 1 << 8 * (place % 4);
            Check.due("601 by the byte of parameter " + place,
                    bridge.feed(words[0], words[1], words[2], words[3], words[4]), -1);
        }
        Check.due("none at 600", bridge.feed(0, 0, 0, 0, 0), 600);
        Check.due("the buffer is read whole", bridge.load(), -11);
        Check.due("and is empty then", bridge.feed(0, 0, 0, 0, 0), 0);
        wholeBuffer();
    }

    private static void wholeBuffer() {
        good(GOOD + " ".repeat(600 - GOOD.length()), 2);
        good(" ".repeat(600 - GOOD.length()) + GOOD, 2);
        wrong(GOOD + " ".repeat(599 - GOOD.length()) + "-", 1, 599);
        wrong(GOOD + " ".repeat(599 - GOOD.length()) + ";", 1, 600);
        wrong(" ".repeat(600), 1, 600);
        wrong("seed 1" + " ".repeat(594), 4, 600);
        wrong("box 0 0 0 0;seed " + "0".repeat(583), 2, 17);
        // "box 01 2 3 4 ;unknown 1234": the most significant byte first, the first parameter first.
        DecadeBridge good = new DecadeBridge();
        good.feed(0x626f7820, 0x30003120, 0x32203320, 0x34203b75, 0x6e6b6e6f);
        good.feed(0x00776e00, 0x20313233, 0, 0x00003400, 0);
        Check.due("the bytes in their order", good.load(), 2);
        Check.due("E 1 and CONTACT 2", good.size(1) * 1000 + good.size(2), 10002);
        Check.due("the unknown", good.part(false, 0), 1234);
    }

    // ---- tokens

    private static void tokens() {
        good("box 0 0 0 0;unknown 000001000", 2);
        wrong("box 0 0 0 0;unknown 0000001000", 2, 20);
        good("box 0 0 0 0;unknown 100000000", 2);
        wrong("box 0 0 0 0;unknown 0100000000", 2, 20);
        wrong("box 0 0 0 0;unknown 4294968296", 2, 20);
        wrong("box 0 0 0 0;unknown 18446744073709552616", 2, 20);
        good("box000000000 0 0 0;unknown 1000", 2);
        wrong("box 0000000000 0 0 0;unknown 1000", 2, 4);
        good("box 0 0 000050000-000050000;unknown 1000", 2);
        wrong("box 0 0 0 -0000050000;unknown 1000", 2, 11);
        good("box 0 0-0-00;unknown 1000", 2);
        good("box 0 0 - 5 - \n 5;unknown 1000", 2);
        good("\n\n  box\n0 0\n0 0 ; unknown\n\n1000\n", 2);
        good("box 0 0 0 0;unknown1000;warm box-4000 0 0;leads1 2 3;seed5", 2);
        wrong("box 0 0 0 0;unknown 10 00", 2, 20);
        wrong("box 0 0 0 0;un known 1000", 1, 12);
        wrong("box 0 0 0 0;unknowns 1000", 1, 12);
        wrong("box 0 0 0 0;unknow 1000", 1, 12);
        wrong("box 0 0 0 0;unknown 1000;warmbox 0 0 0", 1, 25);
        wrong("box 0 0 0 0;unknown 1000;warm boxunknown 0 0 0", 1, 30);
        wrong("box 0 0 0 --0;unknown 1000", 1, 11);
        wrong("box 0 0 0 0;unknown -1000", 1, 20);
        wrong("box 0 0 0 0;unknown 1000;;seed 1", 1, 25);
        wrong("box(0 0 0 0;unknown 1000", 1, 3);
        wrong("(box 0 0 0 0;unknown 1000)", 1, 0);
        wrong("box 0 0 0 0;unknown 1000 seed 1", 1, 25);
        for (String word : new String[] {"turn", "volts", "null", "arms", "balance", "x", "a", "z", "abox", "boxx"}) {
            wrong(GOOD + ";" + word + " 1", 1, 25);
        }
    }

    // Each word with one letter less, one more, and another one in each place.
    private static void words() {
        String[] statements = {"box 0 0 0 0", "ratio 0 0", "unknown 1000", "warm unknown 0 0 0", "warm box 0 0 0",
            "leads 0 0 0", "supply 0 1", "detector 1 0 0 0", "seed 0"};
        for (String statement : statements) {
            int space = statement.indexOf(' ');
            String behind = statement.substring(space);
            spoilt("", statement.substring(0, space), behind);
            if (statement.startsWith("warm ")) {
                int second = statement.indexOf(' ', 5);
                spoilt("warm ", statement.substring(5, second), statement.substring(second));
            }
        }
    }

    private static void spoilt(String ahead, String word, String behind) {
        for (int i = 0; i < word.length(); i++) {
            char other = word.charAt(i) == 'z' ? 'a' : (char) (word.charAt(i) + 1);
            wrong(ahead + word.substring(0, i) + other + word.substring(i + 1) + behind, 1, ahead.length());
            wrong(ahead + word.substring(0, i) + word.substring(i + 1) + behind, 1, ahead.length());
        }
        wrong(ahead + word + "a" + behind, 1, ahead.length());
        wrong(ahead + "a" + word + behind, 1, ahead.length());
        wrong(ahead + word.toUpperCase() + behind, 1, ahead.length());
        wrong(ahead + word + " " + word + behind, 1, ahead.length() + word.length() + 1);
    }

    // "The bytes 32 and 10 separate tokens and are otherwise ignored. Every other byte is an invalid token."
    private static void singleBytes() {
        for (int one = 1; one < 256; one++) {
            String text = GOOD + (char) one;
            if (one == ' ' || one == '\n') {
                good(text, 2);
                good("box" + (char) one + "0 0 0" + (char) one + "0;unknown 1000", 2);
            } else if (one >= '0' && one <= '9') {
                good(text, 2);
                wrong(GOOD + " " + (char) one, 1, 25);
            } else {
                wrong(text, 1, one == ';' ? 25 : 24);
                wrong("box" + (char) one + "0 0 0 0;unknown 1000", 1, one >= 'a' && one <= 'z' ? 0 : 3);
                wrong((char) one + "box 0 0 0 0;unknown 1000", 1, 0);
            }
        }
    }

    // ---- numbers

    private static void ranges() {
        range("box ", 0, 4, " 0 0 0;unknown 1000", false, b -> exponent(b.size(1)));
        range("box 0 ", 0, 999, " 0 0;unknown 1000", false, b -> b.size(2));
        range("unknown 1000;box 0 0 ", -50000, 50000, " 0", true, b -> b.decade(0, 1));
        range("unknown 1000;box 0 0 0 ", -50000, 50000, "", true, b -> b.decade(1, 1));
        range("unknown 1000;box 0 0 0 0 ", -50000, 50000, "", true, b -> b.decade(2, 1));
        range("unknown 1000;box 0 0 0 0 0 ", -50000, 50000, "", true, b -> b.decade(3, 1));
        for (int kind = 0; kind < 5; kind++) {
            int at = kind;
            range(GOOD + ";ratio " + kind + " ", -50000, 50000, "", true, b -> b.ratio(at, 1));
        }
        range(GOOD + ";ratio ", 0, 4, " 77", false, SetupEdgesTest::kindOfError);
        range("box 0 0 0 0;unknown ", 1000, 100000000, ";seed 3", false, b -> b.part(false, 0));
        for (int i = 0; i < 2; i++) {
            boolean box = i == 1;
            String warm = GOOD + ";warm " + (box ? "box " : "unknown ");
            range(warm, -4000, 4000, " 0 0", true, b -> b.part(box, 2));
            range(warm + "0 ", 0, 999, " 0", false, b -> b.part(box, 3));
            range(warm + "-7 0 ", 0, 99, "", false, b -> b.part(box, 4));
        }
        range(GOOD + ";leads ", 0, 99999, " 0 0", false, b -> b.lead(0));
        range(GOOD + ";leads 0 ", 0, 99999, " 0", false, b -> b.lead(1));
        range(GOOD + ";leads 0 0 ", 0, 99999, "", false, b -> b.lead(2));
        range(GOOD + ";supply ", 0, 20000, " 1", false, b -> b.size(3));
        range(GOOD + ";supply 0 ", 1, 1000000, "", false, b -> b.size(4));
        range(GOOD + ";detector ", 1, 9999999, " 0 0 0", false, b -> b.size(5));
        range(GOOD + ";detector 1 ", 0, 9999, " 0 0", false, b -> b.size(6));
        range(GOOD + ";detector 1 0 ", 0, 999, " 0", false, b -> b.size(7));
        range(GOOD + ";detector 1 0 0 ", -99999, 99999, "", true, b -> b.size(8));
        range(GOOD + ";seed ", 0, 99999, "", false, null);
    }

    private static int exponent(int low) {
        int exponent = 0;
        for (int at = low; at > 1; at /= 10) {
            exponent++;
        }
        return exponent;
    }

    private static int kindOfError(DecadeBridge bridge) {
        for (int kind = 0; kind < 5; kind++) {
            if (bridge.ratio(kind, 1) == 77) {
                return kind;
            }
        }
        return -1;
    }

    // A number at one place of a setup: its least and its greatest value, those beside them, one that is too long
    // for any range, and something else in its place.
    private static void range(String ahead, int least, int most, String behind, boolean signed, Question question) {
        int at = ahead.length();
        inside(ahead + least + behind, least, question);
        inside(ahead + most + behind, most, question);
        inside(ahead + (least + 1) + behind, least + 1, question);
        inside(ahead + (most - 1) + behind, most - 1, question);
        inside(ahead + String.format("%09d", most) + behind, most, question);
        wrong(ahead + String.format("%010d", most) + behind, 2, at);
        wrong(ahead + (most + 1) + behind, 2, at);
        wrong(ahead + "999999999" + behind, 2, at);
        if (signed) {
            wrong(ahead + (least - 1) + behind, 2, at + 1);
            wrong(ahead + "- " + -(least - 1) + behind, 2, at + 2);
            inside(ahead + "-" + String.format("%09d", -least) + behind, least, question);
            inside(ahead + "-0" + behind, 0, question);
            wrong(ahead + "-" + String.format("%010d", -least) + behind, 2, at + 1);
            wrong(ahead + "--1" + behind, 1, at + 1);
            wrong(ahead + "-;" + behind, 1, at + 1);
        } else {
            wrong(ahead + "-0" + behind, 1, at);
        }
        if (least > 0) {
            wrong(ahead + (least - 1) + behind, 2, at);
            wrong(ahead + "0" + behind, 2, at);
        }
        wrong(ahead + "a" + behind, 1, at);
        wrong(ahead + "(" + behind, 1, at);
    }

    private static void inside(String setup, int due, Question question) {
        DecadeBridge bridge = Bridges.made(setup);
        if (question != null) {
            Check.due("\"" + setup + "\" tells", question.of(bridge), due);
        }
        Check.due("errorPosition behind \"" + setup + "\"", bridge.errorPosition(), -1);
    }

    // "seed": 0 to 99999, 1 without it: it shows in the draws.
    private static void seeds() {
        for (int seed : new int[] {0, 1, 2, 99998, 99999}) {
            firstReading(GOOD + ";detector 9999999 9999 0 0;seed " + seed, seed);
        }
        firstReading(GOOD + ";detector 9999999 9999 0 0", 1);
        firstReading(GOOD + ";seed 00000007;detector 9999999 9999 0 0", 7);
    }

    private static void firstReading(String setup, int seed) {
        DecadeBridge bridge = Bridges.made(setup);
        bridge.setVolts(1);
        bridge.read();
        Check.due("the first reading of \"" + setup + "\"", bridge.reading(0), 500000 + new Draws(seed).around(9999));
    }

    // "(all 0 without it)", "(0 without "leads")", "(1000 and 1000000 without it)", "(9999999, 0, 0 and 0 without it)",
    // "The errors of ratio resistors are 0 without "ratio"": also behind a setup that had them.
    private static void defaults() {
        DecadeBridge bridge = Bridges.made("box 3 9 8 7 6 5;unknown 9999;warm unknown 1 2 3;warm box 4 5 6;leads 7 8 9;"
                + "supply 10 11;detector 12 13 14 15;ratio 0 16;ratio 1 17;ratio 2 18;ratio 3 19;ratio 4 20;seed 21");
        Check.due("load without them", Bridges.load(bridge, GOOD), 2);
        int[] due = {2, 1, 0, 1000, 1000000, 9999999, 0, 0, 0, 0};
        for (int what = 0; what < due.length; what++) {
            Check.due("size " + what + " without its statement", bridge.size(what), due[what]);
        }
        for (int what = 2; what <= 5; what++) {
            Check.due("part " + what + " of the unknown without \"warm\"", bridge.part(false, what), 0);
            Check.due("part " + what + " of the box without \"warm\"", bridge.part(true, what), 0);
        }
        for (int kind = 0; kind < 5; kind++) {
            Check.due("the error of kind " + kind + " without \"ratio\"", bridge.ratio(kind, 1), 0);
        }
        Check.due("the leads without \"leads\"", bridge.lead(0) + bridge.lead(1) + bridge.lead(2), 0);
        DecadeBridge one = Bridges.made(GOOD + ";warm box 4 5 6;ratio 3 19");
        Check.due("\"warm\" of the box alone", one.part(false, 2) + one.part(false, 3) + one.part(false, 4), 0);
        Check.due("\"ratio\" of another kind", one.ratio(2, 1) + one.ratio(4, 1), 0);
    }

    // "as many as there are": 2 to 4 errors.
    private static void decades() {
        wrong("unknown 1000;box 0 0", 1, 20);
        wrong("unknown 1000;box 0 0 1", 1, 22);
        wrong("box 0 0 1;unknown 1000", 1, 9);
        good("box 0 0 1 -2;unknown 1000", 2);
        good("box 0 0 1 -2 3;unknown 1000", 3);
        good("box 0 0 1 -2 -3 4;unknown 1000", 4);
        wrong("box 0 0 1 -2 -3 4 5;unknown 1000", 1, 18);
        wrong("box 0 0 1 -2 -3 4 -5;unknown 1000", 1, 18);
        wrong("box 0 0 1 -2 -3 4 1234567890;unknown 1000", 1, 18);
        wrong("box 0 0 1 -2 -", 1, 14);
        wrong("box 0 0 1 -2 -;unknown 1000", 1, 14);
    }

    // ---- codes 3 and 4

    private static void twice() {
        String[] statements = {"box 0 0 0 0", "unknown 1000", "leads 1 2 3", "supply 1 1", "detector 1 0 0 0", "seed 1"};
        for (String first : statements) {
            String word = first.substring(0, first.indexOf(' '));
            wrong(first + ";" + first, 3, first.length() + 1);
            wrong(first + ";" + word, 3, first.length() + 1);
            wrong(first + ";" + word + " 1234567890 x", 3, first.length() + 1);
            boolean hasOne = GOOD.contains(word);
            wrong(GOOD + ";ratio 0 0;" + first + ";warm box 0 0 0; " + first, 3, hasOne ? 35 : 52 + first.length());
        }
        good(GOOD + ";leads 1 2 3;supply 1 1;detector 1 0 0 0;seed 1;warm box 0 0 0;warm unknown 0 0 0;"
                + "ratio 0 0;ratio 1 0;ratio 2 0;ratio 3 0;ratio 4 0", 2);
        for (int kind = 0; kind < 5; kind++) {
            int other = (kind + 1) % 5;
            good(GOOD + ";ratio " + kind + " 1;ratio " + other + " 1", 2);
            wrong(GOOD + ";ratio " + kind + " 1;ratio " + kind + " 1", 3, 41);
            wrong(GOOD + ";ratio " + kind + " 1;ratio " + other + " 1;ratio 000" + kind + ";", 3, 51);
            wrong(GOOD + ";ratio " + kind + " 1;ratio 5 1", 2, 41);
        }
        wrong("warm box 0 0 0;warm box 0 0 0", 3, 20);
        wrong("warm unknown 0 0 0;warm unknown 0 0 0", 3, 24);
        wrong("warm unknown 0 0 0;warm box 0 0 0;warm unknown 9999", 3, 39);
        wrong("warm unknown 0 0 0;warm box 0 0 0;warm box", 3, 39);
        good(GOOD + ";warm unknown 0 0 0;warm box 0 0 0", 2);
        good("warm box 0 0 0;warm unknown 0 0 0;" + GOOD, 2);
    }

    private static void endings() {
        good("unknown 1000;box 0 0 0 0", 2);
        wrong("box 0 0 0 0", 4, 11);
        wrong("box 0 0 0 0 \n", 4, 13);
        wrong("unknown 1000", 4, 12);
        wrong("unknown 1000;warm box 0 0 0", 4, 27);
        wrong("box 0 0 0 0;warm unknown 0 0 0", 4, 30);
        wrong("seed 0;leads 0 0 0;supply 0 1", 4, 29);
        String[] parts = {"box 0 0 0 0", "ratio 0 0", "unknown 1000", "warm unknown 0 0 0", "warm box 0 0 0",
            "leads 0 0 0", "supply 0 1", "detector 1 0 0 0", "seed 0"};
        for (String part : parts) {
            // Each statement that is cut ahead of one of its numbers ends too early, with blanks behind it too.
            for (int end = part.indexOf(' '); end >= 0; end = part.indexOf(' ', end + 1)) {
                wrong("ratio 4 4;" + part.substring(0, end), 1, 10 + end);
                wrong("ratio 4 4;" + part.substring(0, end) + "  ", 1, 12 + end);
                wrong("ratio 4 4;" + part.substring(0, end) + ";", 1, 10 + end);
            }
            wrong("ratio 4 4;" + part + ";", 1, 11 + part.length());
            wrong("ratio 4 4;" + part + ")", 1, 10 + part.length());
        }
    }

    // "if several codes apply to one token, the smallest one"
    private static void severalCodes() {
        wrong("", 1, 0);
        wrong("\n", 1, 1);
        wrong("box 0 0 0", 1, 9);
        wrong("seed", 1, 4);
        wrong("box 0 0 0 0;", 1, 12);
        wrong("box 0 0 0 box", 1, 10);
        wrong("seed 1 1234567890", 1, 7);
        wrong("seed seed", 1, 5);
        wrong("seed 1 seed 1", 1, 7);
        wrong("seed 1;;seed 1", 1, 7);
        wrong("warm 1234567890 0 0 0", 1, 5);
        wrong("warm box 0 0 0;warm 5", 1, 20);
        wrong("ratio box 0", 1, 6);
        wrong("ratio 0 0;ratio 0000000000 0", 2, 16);
        wrong("ratio 0 0;ratio -0 0", 1, 16);
    }

    // "The first error along the text is reported, at the first byte of its token"
    private static void firstOfSeveral() {
        wrong("box 0 0 0 0;unknown 999;unknown 1000;bad", 2, 20);
        wrong("unknown 1000;unknown 999;bad", 3, 13);
        wrong("bad;unknown 999;unknown 1000", 1, 0);
        wrong("box 9 9999 99999 99999", 2, 4);
        wrong("seed   \n  100000;?", 2, 10);
        wrong("seed 5  ??", 1, 8);
        wrong("  badword;seed 100000", 1, 2);
    }

    // ---- promise 3: load

    // "which replaces everything ...; what can be undone and the saved states are discarded; the latest report stays"
    private static void replaces() {
        String setup = "box 1 2 3 4 5;unknown 6000;ratio 1 7;warm unknown 8 9 10;leads 11 12 13;supply 14 15000;"
                + "detector 16000 17 18 19;seed 20";
        Portrait.Scene fresh = () -> Bridges.made(setup);
        Portrait.Scene anew = () -> {
            DecadeBridge bridge = busy();
            Check.due("load anew", Bridges.load(bridge, setup), 3);
            return bridge;
        };
        Check.dueSame("the state behind a load", Portrait.state(anew), Portrait.state(fresh));
        Check.dueSame("the buffer and the error position behind a load", Portrait.texts(anew), Portrait.texts(fresh));
        Check.dueSame("the report behind a load", Portrait.report(anew), Portrait.report(SetupEdgesTest::busy));
        DecadeBridge bridge = anew.set();
        Check.due("the arms", bridge.size(10) * 10 + bridge.size(11), 0);
        Check.due("the leads in use", bridge.size(13), 2);
        Check.due("the supply is not turned", bridge.size(12), 0);
        Check.due("results, manners and what can be undone", bridge.size(17) + bridge.size(18) + bridge.size(19), 0);
        Check.due("the time and the counts", bridge.size(9) + bridge.size(15) + bridge.size(16), 0);
        Check.due("the temperatures", bridge.part(false, 5) + bridge.part(true, 5), 0);
        Check.due("the energy", bridge.energy(), 0);
        Check.due("the readings", bridge.reading(0), -1000000000);
        Check.due("the setting", bridge.size(14), 0);
        Check.due("undo", bridge.undo(), -1);
        Check.due("restore", bridge.restore(0) + bridge.restore(1), -2);
    }

    private static DecadeBridge busy() {
        DecadeBridge bridge = Bridges.made("box 2 0 0 0 0 0;unknown 3000;warm unknown 999 99 9;warm box 999 99 9;"
                + "leads 1 1 1;ratio 0 50;detector 9999999 5 5 5");
        bridge.balance(true);
        bridge.setTo(30);
        bridge.setVolts(1);
        bridge.rest(99);
        bridge.read();
        bridge.save(0);
        bridge.setArms(1, 0);
        bridge.connect(3);
        bridge.turn();
        bridge.balance(false);
        bridge.save(1);
        bridge.rest(9);
        Check.due("there are results and nulls", bridge.size(17) > 0 && bridge.size(16) > 0 ? 1 : 0, 1);
        Check.due("there is a report", bridge.report() > 0 ? 1 : 0, 1);
        Bridges.run(bridge, "wrong;");
        return bridge;
    }

    // ---- promise 5: errorPosition

    // "the position of the error of the latest call of load or run; NONE if that call had no error"
    private static void positions() {
        DecadeBridge bridge = new DecadeBridge();
        Check.due("no such call", bridge.errorPosition(), -1);
        Bridges.feed(bridge, "box");
        Check.due("feed reads nothing", bridge.errorPosition(), -1);
        bridge.load();
        Check.due("an error at the end", bridge.errorPosition(), 3);
        Bridges.run(bridge, "  x");
        Check.due("an error of run", bridge.errorPosition(), 2);
        Bridges.feed(bridge, "turn;");
        bridge.turn();
        bridge.undo();
        bridge.save(0);
        bridge.restore(0);
        bridge.report();
        bridge.read();
        Check.due("other calls leave it", bridge.errorPosition(), 2);
        Check.due("a good run", bridge.run(), 1);
        Check.due("has none", bridge.errorPosition(), -1);
        Bridges.load(bridge, "!");
        Check.due("an error at 0", bridge.errorPosition(), 0);
        Bridges.load(bridge, GOOD);
        Check.due("a good load has none", bridge.errorPosition(), -1);
        Bridges.run(bridge, "set 100;");
        Check.due("nor has a run that ends at a step", bridge.errorPosition(), -1);
    }
}
