import java.util.Random;

/** Runs of chance calls, the same ones each time, answered by the class as by the model. */
public final class ModelTest {
    private static final int RUNS = 400;
    private static final int CALLS = 510;

    private final Due due;
    private final Random random;
    private final int seed;
    private final TriggerNetwork network = new TriggerNetwork();
    private final Model model = new Model();
    private int calls = 0;

    private ModelTest(Due due, int seed) {
        this.due = due;
        this.seed = seed;
        // Random starts alike for small seeds that lie side by side.
        random = new Random(seed * 0x9E3779B97F4A7C15L);
    }

    public static void main(String[] args) {
        Due due = new Due();
        int[] most = new int[3];
        int full = 0;
        for (int seed = 0; seed < RUNS; seed++) {
            ModelTest test = new ModelTest(due, seed);
            test.run();
            for (int what = 3; what <= 5; what++) {
                most[what - 3] = Math.max(most[what - 3], test.size(what));
            }
            full += test.size(3) == 60 ? 1 : 0;
        }
        due.same("the runs fill the picks", 60, most[0]);
        due.same("the runs fill the events", 20, most[1]);
        System.out.println("runs that fill the picks: " + full + ", most events that stand: " + most[2]);
        for (int seed = 0; seed < 3000; seed++) {
            new ModelTest(due, seed).readBrokenTexts();
        }
        due.finish();
    }

    private void run() {
        boolean busy = seed % 2 == 0;
        readText(goodText(busy));
        while (calls < CALLS) {
            if (busy) {
                shake();
            } else if (random.nextInt(200) == 0 && calls < CALLS - 40) {
                readText(random.nextInt(2) == 0 ? goodText(false) : brokenText());
            } else if (random.nextInt(3) > 0) {
                change();
            } else {
                look();
            }
        }
    }

    private void readBrokenTexts() {
        for (int k = 0; k < 8; k++) {
            readText(brokenText());
        }
    }

    private int below(int bound) {
        return random.nextInt(bound);
    }

    private int number(int usual) {
        return below(12) == 0 ? new int[] {-1, Integer.MIN_VALUE, Integer.MAX_VALUE, 8, 60, 144}[below(6)] : below(usual);
    }

    /** Asks the model, as an object of the class is good for 512 calls alone. */
    private int size(int what) {
        return (int) model.call("size", what);
    }

    private int stations() {
        return Math.max(1, size(0));
    }

    private int level() {
        return new int[] {0, 1, 5, 10, 50, 100, 1000, 9999, 10000, -1}[below(100) < 4 ? 8 + below(2) : below(8)];
    }

    /** Lets some stations shake one after the other, and falls quiet again: many picks and events. */
    private void shake() {
        int first = below(stations());
        for (int k = below(stations()); k >= 0; k--) {
            same("setLevel", (first + k) % stations(), 10 + below(10) * below(1000));
            if (below(2) == 0) {
                same("pass", 1 + below(3));
            }
        }
        look();
        same("pass", 1 + below(3));
        for (int station = 0; station < size(0); station++) {
            if (model.call("station", station, 2) > 2) {
                same("setLevel", station, below(3));
            }
        }
        same("pass", 6 + below(12));
        look();
        if (below(5) == 0) {
            change();
        }
    }

    private void change() {
        switch (below(24)) {
            case 0 -> same("mute", number(stations()));
            case 1, 2 -> same("unmute", number(stations()));
            case 3 -> same("retract", number(Math.max(1, size(4))));
            case 4 -> same("undo");
            case 5 -> {
                for (int k = below(14); k >= 0; k--) {
                    same("undo");
                }
            }
            case 6 -> same(below(2) == 0 ? "saveSnapshot" : "restoreSnapshot", number(2));
            case 7 -> same("pass", new int[] {-1, 0, 200, 201, Integer.MAX_VALUE, 99, 100}[below(7)]);
            case 8, 9, 10, 11, 12, 13, 14, 15 -> same("pass", 1 + below(below(3) == 0 ? 20 : 3));
            default -> same("setLevel", number(stations()), level());
        }
    }

    private void look() {
        int picks = Math.max(1, size(3)) + below(2);
        int events = Math.max(1, size(4)) + (below(8) == 0 ? 1 : 0);
        switch (below(20)) {
            case 0 -> same("errorPosition");
            case 1 -> same("size", number(7));
            case 2 -> same("tick");
            case 3 -> same("between", number(stations()), number(stations()));
            case 4 -> same("travel", number(size(1)), number(stations()));
            case 5 -> same("ladder", new int[] {-1, 0, 9999, 99999, 100000, below(9999), below(100)}[below(7)]);
            case 6, 7 -> same("station", number(stations()), below(10) - 1);
            case 8 -> same("triggered");
            case 9, 10 -> same("pick", number(picks), below(7) - 1);
            case 11 -> same("fits", number(picks), number(picks));
            case 12, 13 -> same("event", number(events), below(9) - 1);
            case 14 -> same("eventPick", number(events), number(9));
            case 15 -> same("misfit", number(size(1)), number(events));
            case 16 -> describe(events);
            case 17 -> same("ratioAfter", number(stations()), level(), below(9) == 0 ? number(300) : below(30));
            case 18 -> same("eventsWithout", number(stations()), below(9) == 0 ? number(300) : below(30));
            default -> same("ticksToEvent");
        }
    }

    private void describe(int events) {
        same("describe", number(events));
        same("describedByte", number(50));
        same("describedByte", below(50));
    }

    /** Compares one call; what is thrown counts by its exact class. */
    private void same(String name, int... x) {
        if (calls >= CALLS) {
            return;
        }
        calls++;
        String want = answer(() -> model.call(name, x));
        String got = answer(() -> call(name, x));
        if (!want.equals(got)) {
            due.same("seed " + seed + " call " + calls + " " + name + java.util.Arrays.toString(x), want, got);
        } else {
            due.same("", 0, 0);
        }
    }

    private interface Call {
        long run();
    }

    private static String answer(Call call) {
        try {
            return Long.toString(call.run());
        } catch (RuntimeException e) {
            return e.getClass().getName();
        }
    }

    private long call(String name, int... x) {
        return switch (name) {
            case "append" -> network.append(x[0], x[1], x[2], x[3], x[4]);
            case "parse" -> network.parse(x[0]);
            case "errorPosition" -> network.errorPosition();
            case "size" -> network.size(x[0]);
            case "tick" -> network.tick();
            case "between" -> network.between(x[0], x[1]);
            case "travel" -> network.travel(x[0], x[1]);
            case "ladder" -> network.ladder(x[0]);
            case "station" -> network.station(x[0], x[1]);
            case "triggered" -> network.triggered();
            case "pick" -> network.pick(x[0], x[1]);
            case "fits" -> network.fits(x[0], x[1]) ? 1 : 0;
            case "event" -> network.event(x[0], x[1]);
            case "eventPick" -> network.eventPick(x[0], x[1]);
            case "misfit" -> network.misfit(x[0], x[1]);
            case "describe" -> network.describe(x[0]);
            case "describedByte" -> network.describedByte(x[0]);
            case "ratioAfter" -> network.ratioAfter(x[0], x[1], x[2]);
            case "eventsWithout" -> network.eventsWithout(x[0], x[1]);
            case "ticksToEvent" -> network.ticksToEvent();
            case "setLevel" -> network.setLevel(x[0], x[1]);
            case "pass" -> network.pass(x[0]);
            case "mute" -> network.mute(x[0]);
            case "unmute" -> network.unmute(x[0]);
            case "retract" -> network.retract(x[0]);
            case "undo" -> network.undo();
            case "saveSnapshot" -> network.saveSnapshot(x[0]) ? 1 : 0;
            case "restoreSnapshot" -> network.restoreSnapshot(x[0]);
            default -> throw new AssertionError(name);
        };
    }

    private void readText(String text) {
        for (int[] words : Net.words(text)) {
            same("append", words);
        }
        if (below(20) == 0) {
            same("parse", new int[] {-1, 501, Integer.MIN_VALUE}[below(3)]);
        }
        same("parse", text.length());
        same("errorPosition");
        for (int what = 0; what < 6; what++) {
            same("size", what);
        }
    }

    private String goodText(boolean busy) {
        StringBuilder text = new StringBuilder();
        int wide = new int[] {5, 60, 1000}[below(3)];
        for (int k = !busy && below(10) == 0 ? 0 : 2 + below(7); k > 0; k--) {
            text.append("station ").append(below(wide)).append(' ').append(below(wide)).append(";");
        }
        if (below(2) == 0) {
            text.append("grid ").append(below(wide)).append(' ').append(below(wide)).append(' ').append(1 + below(12));
            text.append(' ').append(1 + below(12)).append(' ').append(1 + below(99)).append(";");
        }
        if (below(2) == 0) {
            text.append("speed ").append(1 + below(below(2) == 0 ? 20 : 999)).append(";");
        }
        if (busy || below(4) > 0) {
            int shorter = 1 + below(!busy && below(4) == 0 ? 50 : 4);
            int longer = Math.min(99, shorter + (busy ? 3 : 0) + below(!busy && below(4) == 0 ? 99 : 8));
            text.append("average ").append(shorter).append(' ').append(longer).append(";");
        }
        if (busy || below(3) > 0) {
            int on = busy ? 80 + below(100) : 1 + below(200);
            text.append("trigger ").append(on).append(' ').append(busy ? 79 : below(on + 1)).append(";");
        }
        if (below(3) > 0) {
            text.append("votes ").append(1 + below(4)).append(";");
        }
        if (below(2) == 0) {
            text.append("slack ").append(below(below(2) == 0 ? 4 : 100)).append(";");
        }
        if (below(2) == 0) {
            text.append("decay ").append(below(100)).append(";");
        }
        int amplitude = below(30);
        int magnitude = below(5);
        for (int k = below(9); k > 0 && amplitude <= 9999; k--) {
            text.append("rung ").append(amplitude).append(' ').append(magnitude).append(";");
            amplitude += 1 + below(below(2) == 0 ? 40 : 2000);
            magnitude += below(9);
        }
        return text.toString();
    }

    private String brokenText() {
        StringBuilder text = new StringBuilder(goodText(false));
        for (int k = below(4); k > 0 && text.length() > 0; k--) {
            int at = below(text.length());
            switch (below(6)) {
                case 0 -> text.deleteCharAt(at);
                case 1 -> text.insert(at, ";z9 \nA\u00e9\t0".charAt(below(9)));
                case 2 -> text.setLength(at);
                case 3 -> text.insert(at, new String[] {"99", " 0 ", " slack 1;", " speed ", "\n", "0000"}[below(6)]);
                case 4 -> text.append("rung 9999 99;station 1 2;".repeat(below(4)));
                default -> text.setCharAt(at, (char) below(256));
            }
        }
        text.setLength(Math.min(text.length(), 500));
        return text.toString();
    }
}
