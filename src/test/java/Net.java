import java.nio.charset.StandardCharsets;

/** Feeds texts to a network and reads its descriptions. */
final class Net {
    private Net() {
    }

    static TriggerNetwork of(String text) {
        TriggerNetwork network = new TriggerNetwork();
        int code = feed(network, text);
        if (code != 0) {
            throw new AssertionError("code " + code + " at " + network.errorPosition() + " of " + text);
        }
        return network;
    }

    /** Appends the text, filled up to whole appends, and parses just the text. */
    static int feed(TriggerNetwork network, String text) {
        append(network, text);
        return network.parse(text.length());
    }

    static void append(TriggerNetwork network, String text) {
        for (int[] words : words(text)) {
            network.append(words[0], words[1], words[2], words[3], words[4]);
        }
    }

    static int[][] words(String text) {
        byte[] bytes = text.getBytes(StandardCharsets.ISO_8859_1);
        int[][] rows = new int[(bytes.length + 19) / 20][5];
        for (int k = 0; k < rows.length * 20; k++) {
            int sign = k < bytes.length ? bytes[k] & 255 : ' ';
            rows[k / 20][k % 20 / 4] |= sign << (24 - 8 * (k % 4));
        }
        return rows;
    }

    static String described(TriggerNetwork network, int event) {
        int length = network.describe(event);
        return described(network) + (described(network).length() == length ? "" : " (length " + length + ")");
    }

    static String described(TriggerNetwork network) {
        StringBuilder text = new StringBuilder();
        for (int k = 0; network.describedByte(k) != TriggerNetwork.NONE; k++) {
            text.append((char) network.describedByte(k));
        }
        return text.toString();
    }
}
