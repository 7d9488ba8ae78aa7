import java.nio.charset.StandardCharsets;

/** Feeds texts to a network and reads its descriptions. */
final class Net {
    private Net() {
    }

    static TriggerNetwork of(String text) {
        TriggerNetwork network = new TriggerNetwork();
        int code = feed(network, text);
        if (code != 0) {
            throw new AssertionError("code " + code + " at " + network.errorPosition() + " of " + text);
        }
        return network;
    }

    /** Appends the text, filled up to whole appends, and parses just the text. */
    static int feed(TriggerNetwork network, String text) {
        append(network, text);
        return network.parse(text.length());
    }

    static void append(TriggerNetwork network, String text) {
        for (int[] words : words(text)) {
            network.append(words[0], words[1], words[2], words[3], words[4]);
        }
    }

    static int[][] words(String text) {
        byte[] bytes = text.getBytes(StandardCharsets.ISO_8859_1);
        int[][] rows = new int[(bytes.length + 19) / 20][5];
        for (int k = 0; k < rows.length * 20; k++) {
            int sign = k < bytes.length ? bytes[k] & 255 : ' ';
            rows[k / 20][k % 20 / 4] |= sign << (24 - 8 * (k % 4));
        }
        return rows;
    }

    /** Sets a level and lets a tick pass: a pick, if the station was quiet. */
    static int shake(TriggerNetwork network, int station, int level) {
        network.setLevel(station, level);
        return network.pass(1);
    }

    /** Lets so many ticks pass, more than one call can. */
    static void pass(TriggerNetwork network, int ticks) {
        for (int left = ticks; left > 0; left -= 200) {
            network.pass(Math.min(left, 200));
        }
    }

    /** What the looking methods answer of all that changes can change, a few dozen calls. */
    static String state(TriggerNetwork network) {
        StringBuilder text = new StringBuilder("tick ").append(network.tick());
        text.append(" triggered ").append(network.triggered());
        for (int what = 0; what <= 5; what++) {
            text.append(what == 0 ? " sizes " : ",").append(network.size(what));
        }
        for (int station = 0; station < network.size(0); station++) {
            for (int what = 0; what <= 7; what++) {
                text.append(what == 0 ? " station " : ",").append(network.station(station, what));
            }
        }
        for (int pick = 0; pick < network.size(3); pick++) {
            for (int what = 0; what <= 4; what++) {
                text.append(what == 0 ? " pick " : ",").append(network.pick(pick, what));
            }
        }
        for (int event = 0; event < network.size(4); event++) {
            for (int what = 0; what <= 6; what++) {
                text.append(what == 0 ? " event " : ",").append(network.event(event, what));
            }
        }
        return text.toString();
    }

    static String described(TriggerNetwork network, int event) {
        int length = network.describe(event);
        String text = described(network);
        return text.length() == length ? text : text + " (length " + length + ")";
    }

    /** One call a byte, as an object is good for 512 calls alone. */
    static String described(TriggerNetwork network) {
        StringBuilder text = new StringBuilder();
        for (int sign = network.describedByte(0); sign != TriggerNetwork.NONE; ) {
            text.append((char) sign);
            sign = network.describedByte(text.length());
        }
        return text.toString();
    }
}
