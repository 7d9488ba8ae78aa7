import java.io.IOException;
import java.nio.charset.StandardCharsets;
import java.nio.file.Files;
import java.nio.file.Path;
import java.util.ArrayList;
import java.util.List;

/** Runs the examples of README.md, and sees that they stand there as they are run here. */
public final class ReadmeTest {
    public static void main(String[] args) throws IOException {
        Due due = new Due();
        example(due);
        faultyText(due);
        List<String> run = Files.readAllLines(Path.of("src/test/java/ReadmeTest.java"));
        int from = 0;
        List<String> lines = examples(Files.readAllLines(Path.of("README.md")));
        due.same("README.md has examples", true, lines.size() > 20);
        for (String line : lines) {
            int at = find(run, from, line);
            due.same("a line of README.md is run: " + line, true, at >= 0);
            from = Math.max(from, at + 1);
        }
        due.finish();
    }

    static int feed(TriggerNetwork network, String text) {
        byte[] bytes = text.getBytes(StandardCharsets.US_ASCII);
        int[] words = new int[(bytes.length + 19) / 20 * 5];
        for (int k = 0; k < bytes.length; k++) {
            words[k / 4] |= bytes[k] << (24 - 8 * (k % 4));
        }
        for (int k = 0; k < words.length; k += 5) {
            network.append(words[k], words[k + 1], words[k + 2], words[k + 3], words[k + 4]);
        }
        return network.parse(bytes.length);
    }

    private static void example(Due due) {
        TriggerNetwork network = new TriggerNetwork();
        int code = feed(network, "station 0 0; station 60 0; station 0 60; average 1 4; rung 100 10; rung 200 25;");
        due.same("the code of the text", 0, code);
        for (int station = 0; station < network.size(0); station++) {
            network.setLevel(station, 10);
        }
        network.pass(4);
        due.same("picks before", 0, network.size(3));
        network.setLevel(1, 180);
        int picks = network.pass(1);
        due.same("picks", 1, picks);
        network.setLevel(0, 170);
        picks += network.pass(3);
        due.same("picks", 2, picks);
        network.setLevel(2, 190);
        picks += network.pass(1);
        due.same("picks", 3, picks);
        int length = network.describe(0);
        StringBuilder description = new StringBuilder();
        for (int k = 0; k < length; k++) {
            description.append((char) network.describedByte(k));
        }
        due.same("the description", "event 0 at 40,20 with 3 votes magnitude 25", description.toString());
        int lost = network.mute(2);
        due.same("events retracted", 1, lost);
        due.same("events that stand when it is muted", 0, network.size(5));
        int left = network.undo();
        due.same("changes that can be undone", 9, left);
        due.same("events that stand again", 1, network.size(5));
    }

    private static void faultyText(Due due) {
        TriggerNetwork network = new TriggerNetwork();
        due.same("the code of a number out of its range", 3, feed(network, "station 5 9; speed 0;"));
        due.same("its position", 19, network.errorPosition());
        due.same("the network is as before", 0, network.size(0));
    }

    /** The lines of the java examples, without their comments. */
    private static List<String> examples(List<String> readme) {
        List<String> lines = new ArrayList<>();
        boolean inside = false;
        for (String line : readme) {
            if (line.startsWith("```")) {
                inside = line.equals("```java");
            } else if (inside) {
                lines.add(line.replaceFirst("//.*$", "").strip());
            }
        }
        return lines;
    }

    private static int find(List<String> lines, int from, String line) {
        for (int k = from; k < lines.size(); k++) {
            if (lines.get(k).strip().equals(line)) {
                return k;
            }
        }
        return -1;
    }
}
