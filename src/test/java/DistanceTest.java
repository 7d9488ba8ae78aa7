/** Promises 7 to 9: travel times between stations and from nodes, and the ladder. */
public final class DistanceTest {
    private static final Due due = new Due();

    public static void main(String[] args) {
        between();
        travel();
        farthest();
        ladder();
        due.finish();
    }

    private static void between() {
        TriggerNetwork x = Net.of("station 0 0;station 3 4;station 7 7;speed 7;");
        due.same("itself", 0, x.between(1, 1));
        due.same("5 * 10 / 7", 7, x.between(0, 1));
        due.same("the other way", 7, x.between(1, 0));
        due.same("root of 98 is 9, 90 / 7", 12, x.between(0, 2));
        due.same("root of 25 is 5", 7, x.between(1, 2));
        due.noIndex("no first", () -> x.between(3, 0));
        due.noIndex("no second", () -> x.between(0, 3));
        due.noIndex("negative", () -> x.between(-1, 0));
        due.noIndex("negative", () -> x.between(0, -1));
        due.noIndex("far", () -> x.between(Integer.MAX_VALUE, Integer.MIN_VALUE));
        due.noIndex("none at all", () -> new TriggerNetwork().between(0, 0));
    }

    private static void travel() {
        TriggerNetwork x = Net.of("station 10 0;station 0 25;grid 10 5 3 2 20;speed 10;");
        int[][] want = {{5, 22}, {20, 36}, {40, 53}, {25, 10}, {32, 30}, {47, 50}};
        for (int node = 0; node < 6; node++) {
            due.same("node " + node, want[node][0], x.travel(node, 0));
            due.same("node " + node, want[node][1], x.travel(node, 1));
        }
        TriggerNetwork y = Net.of("station 0 0;grid 0 0 1 3 10;speed 10;");
        due.same("one column", 10, y.travel(1, 0));
        due.same("one column", 20, y.travel(2, 0));
        due.noIndex("no node", () -> x.travel(6, 0));
        due.noIndex("no node", () -> x.travel(-1, 0));
        due.noIndex("no station", () -> x.travel(0, 2));
        due.noIndex("no station", () -> x.travel(0, -1));
    }

    private static void farthest() {
        TriggerNetwork x = Net.of("station 0 0;station 999 999;grid 999 999 12 12 99;speed 1;");
        due.same("root of 1996002 is 1412", 14120, x.between(0, 1));
        due.same("root of 8719488 is 2952", 29520, x.travel(143, 0));
        due.same("1089 * 1089 * 2", 15400, x.travel(143, 1));
        due.noIndex("no node", () -> x.travel(144, 0));
    }

    private static void ladder() {
        TriggerNetwork x = Net.of("rung 10 5;rung 100 5;rung 9999 20;");
        due.same("below", -1, x.ladder(0));
        due.same("just below", -1, x.ladder(9));
        due.same("first", 5, x.ladder(10));
        due.same("second", 5, x.ladder(100));
        due.same("just below the last", 5, x.ladder(9998));
        due.same("last", 20, x.ladder(9999));
        due.same("highest", 20, x.ladder(99999));
        due.noArgument("too high", () -> x.ladder(100000));
        due.noArgument("negative", () -> x.ladder(-1));
        due.same("a rung at 0", 0, Net.of("rung 0 0;").ladder(0));
    }
}
