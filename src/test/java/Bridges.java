import java.nio.charset.StandardCharsets;

// Makes bridges and gives them texts.
final class Bridges {
    private Bridges() {
    }

    static DecadeBridge made(String setup) {
        DecadeBridge bridge = new DecadeBridge();
        Check.due("load of \"" + setup + "\" is good", load(bridge, setup) >= 2 ? 1 : 0, 1);
        return bridge;
    }

    static int load(DecadeBridge bridge, String setup) {
        feed(bridge, setup);
        return bridge.load();
    }

    static int run(DecadeBridge bridge, String protocol) {
        feed(bridge, protocol);
        return bridge.run();
    }

    // Feeds a text; what it answers is the answer of the last call.
    static int feed(DecadeBridge bridge, String text) {
        byte[] bytes = text.getBytes(StandardCharsets.ISO_8859_1);
        int answer = 0;
        for (int at = 0; at < bytes.length; at += 20) {
            answer = bridge.feed(four(bytes, at), four(bytes, at + 4), four(bytes, at + 8),
                    four(bytes, at + 12), four(bytes, at + 16));
        }
        return answer;
    }

    private static int four(byte[] bytes, int from) {
        int word = 0;
        for (int at = from; at < from + 4; at++) {
            word = word << 8 | (at < bytes.length ? bytes[at] & 255 : 0);
        }
        return word;
    }

    static String reportOf(DecadeBridge bridge) {
        StringBuilder text = new StringBuilder();
        int length = bridge.report();
        for (int i = 0; i < length; i++) {
            text.append((char) bridge.reportByte(i));
        }
        return text.toString();
    }
}
