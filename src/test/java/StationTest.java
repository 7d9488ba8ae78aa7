/** Promises 10 and 11: the properties of stations, their averages, and when they are triggered. */
public final class StationTest {
    private static final Due due = new Due();

    public static void main(String[] args) {
        properties();
        sums();
        longestSpans();
        highestRatio();
        readiness();
        onAndOff();
        wrongArguments();
        due.finish();
    }

    private static void properties() {
        TriggerNetwork x = Net.of("station 12 34;station 999 0;average 1 2;trigger 200 100;");
        due.same("x", 12, x.station(0, 0));
        due.same("y", 34, x.station(0, 1));
        due.same("x", 999, x.station(1, 0));
        due.same("y", 0, x.station(1, 1));
        x.setLevel(1, 77);
        due.same("level", 77, x.station(1, 2));
        due.same("level of the other", 0, x.station(0, 2));
        due.same("no sample yet", 0, x.station(1, 3));
        due.same("ratio without samples", 0, x.station(1, 5));
        x.pass(1);
        due.same("not ready", 0, x.station(1, 6));
        x.mute(0);
        due.same("muted", 1, x.station(0, 7));
        due.same("not muted", 0, x.station(1, 7));
        due.same("triggered", 0, x.triggered());
    }

    private static void sums() {
        TriggerNetwork x = Net.of("station 0 0;average 2 4;");
        int[] levels = {1, 2, 4, 8, 16, 32};
        int[] shortSums = {1, 3, 6, 12, 24, 48};
        int[] longSums = {1, 3, 7, 15, 30, 60};
        int[] ratios = {200, 200, 171, 160, 160, 160};
        for (int k = 0; k < levels.length; k++) {
            x.setLevel(0, levels[k]);
            x.pass(1);
            due.same("S", shortSums[k], x.station(0, 3));
            due.same("L", longSums[k], x.station(0, 4));
            due.same("ratio", ratios[k], x.station(0, 5));
        }
        x.setLevel(0, 0);
        x.pass(3);
        due.same("S", 0, x.station(0, 3));
        due.same("L", 32, x.station(0, 4));
        due.same("ratio", 0, x.station(0, 5));
        x.pass(1);
        due.same("L", 0, x.station(0, 4));
        due.same("ratio without L", 0, x.station(0, 5));
    }

    private static void longestSpans() {
        TriggerNetwork x = Net.of("station 0 0;station 0 0;average 50 99;trigger 9999 0;");
        x.setLevel(0, 9999);
        x.setLevel(1, 1);
        x.pass(200);
        due.same("S", 50 * 9999, x.station(0, 3));
        due.same("L", 99 * 9999, x.station(0, 4));
        due.same("ratio of great sums", 100, x.station(0, 5));
        x.setLevel(0, 0);
        x.pass(49);
        due.same("S", 9999, x.station(0, 3));
        due.same("L", 50 * 9999, x.station(0, 4));
        due.same("ratio", 3, x.station(0, 5));
        x.pass(49);
        due.same("L", 9999, x.station(0, 4));
        x.pass(1);
        due.same("L", 0, x.station(0, 4));
        due.same("S of the other", 50, x.station(1, 3));
        due.same("L of the other", 99, x.station(1, 4));
    }

    private static void highestRatio() {
        TriggerNetwork x = Net.of("station 0 0;average 1 99;trigger 9900 9900;votes 8;");
        x.pass(150);
        x.setLevel(0, 9999);
        due.same("on", 1, x.pass(1));
        due.same("ratio", 9900, x.station(0, 5));
        x.pass(1);
        due.same("ratio", 4950, x.station(0, 5));
        due.same("below off", 0, x.triggered());
    }

    private static void readiness() {
        TriggerNetwork x = Net.of("station 0 0;average 1 4;trigger 100 0;votes 8;");
        x.setLevel(0, 5);
        due.same("not ready in tick 3", 0, x.pass(3));
        due.same("but its ratio would do", 133, x.station(0, 5));
        due.same("ready in tick 4", 1, x.pass(1));
        due.same("its time", 4, x.pick(0, 1));
    }

    private static void onAndOff() {
        TriggerNetwork x = Net.of("station 0 0;average 1 2;trigger 150 50;votes 8;");
        x.setLevel(0, 10);
        x.pass(2);
        x.setLevel(0, 29);
        due.same("148 is below on", 0, x.pass(1));
        x.undo();
        x.setLevel(0, 30);
        due.same("on", 1, x.pass(1));
        due.same("ratio", 150, x.station(0, 5));
        due.same("triggered", 1, x.triggered());
        x.setLevel(0, 10);
        due.same("off itself still holds", 0, x.pass(1));
        due.same("ratio", 50, x.station(0, 5));
        due.same("triggered", 1, x.station(0, 6));
        x.setLevel(0, 3);
        x.pass(1);
        due.same("ratio", 46, x.station(0, 5));
        due.same("below off", 0, x.station(0, 6));
        due.same("triggered", 0, x.triggered());
        x.setLevel(0, 100);
        due.same("on again", 1, x.pass(1));
        due.same("picks", 2, x.size(3));
    }

    private static void wrongArguments() {
        TriggerNetwork x = Net.of("station 0 0;");
        due.noIndex("no station", () -> x.station(1, 0));
        due.noIndex("no station", () -> x.station(-1, 0));
        due.noIndex("no station is told first", () -> x.station(8, 8));
        due.noArgument("no property", () -> x.station(0, 8));
        due.noArgument("no property", () -> x.station(0, -1));
    }
}
