/** Promises 7 to 9: a test for each sentence of the document that names a boundary case. */
public final class DistanceEdgeTest {
    private static final int LEAST = Integer.MIN_VALUE;
    private static final int GREATEST = Integer.MAX_VALUE;
    private static final Due due = new Due();

    public static void main(String[] args) {
        due.runPromises(DistanceEdgeTest.class);
    }

    // ---- between

    /** "the greatest whole number whose square is at most the sum of the squares": speed 10 shows it bare. */
    static void promise07DistanceIsTheGreatestWholeRoot() {
        int[][] rows = {
            {0, 0, 0}, {1, 0, 1}, {1, 1, 1}, {2, 0, 2}, {2, 2, 2}, {3, 4, 5}, {5, 3, 5}, {6, 0, 6}, {7, 7, 9},
            {8, 6, 10}, {99, 14, 99}, {99, 15, 100}, {999, 0, 999}, {999, 44, 999}, {999, 45, 1000}, {999, 999, 1412},
            {119, 120, 169}, {118, 120, 168}, {119, 121, 169},
        };
        for (int[] row : rows) {
            TriggerNetwork x = Net.of("speed 10;station 0 0;station " + row[0] + " " + row[1] + ";");
            due.same(row[0] + "," + row[1], row[2], x.between(0, 1));
        }
    }

    /** All right angles with whole sides up to 999 that end in these columns, by whole arithmetic. */
    static void promise07ManyDistances() {
        for (int y = 0; y <= 999; y += 37) {
            StringBuilder text = new StringBuilder("speed 10;station 0 0;");
            for (int k = 1; k < 8; k++) {
                text.append("station ").append(k * 142 + y % 5).append(' ').append(y).append(';');
            }
            TriggerNetwork x = Net.of(text.toString());
            for (int k = 1; k < 8; k++) {
                long square = (long) x.station(k, 0) * x.station(k, 0) + (long) y * y;
                long root = x.between(0, k);
                due.same("not too great", true, root * root <= square);
                due.same("not too small", true, (root + 1) * (root + 1) > square);
            }
        }
    }

    /** "The travel time for a distance is distance * 10 / tenths", and / truncates. */
    static void promise07TravelTimeTruncates() {
        int[][] rows = {
            {5, 60, 0}, {6, 60, 1}, {11, 60, 1}, {12, 60, 2}, {99, 999, 0}, {100, 999, 1}, {999, 999, 10}, {999, 1, 9990},
            {5, 7, 7}, {0, 1, 0}, {1, 10, 1}, {1, 11, 0}, {1, 9, 1},
        };
        for (int[] row : rows) {
            TriggerNetwork x = Net.of("speed " + row[1] + ";station 0 5;station " + row[0] + " 5;");
            due.same(row[0] + " * 10 / " + row[1], row[2], x.between(0, 1));
            due.same("the other way", row[2], x.between(1, 0));
        }
    }

    static void promise07FromAStationToItself() {
        TriggerNetwork x = Net.of("speed 1;station 3 4;station 3 4;station 9 9;");
        due.same("itself", 0, x.between(0, 0));
        due.same("itself", 0, x.between(2, 2));
        due.same("one at the same place", 0, x.between(0, 1));
    }

    /** "Throws IndexOutOfBoundsException if there is no such station" */
    static void promise07NoSuchStation() {
        TriggerNetwork x = Net.of("station 1 1;station 2 2;station 3 3;");
        for (int wrong : new int[] {-1, 3, 8, LEAST, GREATEST}) {
            due.noIndex("the first", () -> x.between(wrong, 0));
            due.noIndex("the second", () -> x.between(0, wrong));
            due.noIndex("both", () -> x.between(wrong, wrong));
        }
        due.same("the last one is there", 0, x.between(2, 2));
    }

    static void promise07EightStations() {
        TriggerNetwork x = Net.of("speed 10;" + "station 1 1;".repeat(7) + "station 8 1;");
        due.same("the eighth", 7, x.between(7, 0));
        due.same("the eighth", 7, x.between(6, 7));
        due.noIndex("no ninth", () -> x.between(8, 0));
        due.noIndex("no ninth", () -> x.between(0, 8));
    }

    static void promise07NoStations() {
        TriggerNetwork x = new TriggerNetwork();
        due.noIndex("none at all", () -> x.between(0, 0));
    }

    // ---- travel

    /** "x + i * step, y + j * step, with i from 0 to columns minus 1 ...; the number of a node is j * columns + i" */
    static void promise08NumbersOfNodes() {
        TriggerNetwork x = Net.of("speed 10;station 100 200;grid 100 200 3 4 7;");
        int[][] rows = {{0, 0}, {1, 7}, {2, 14}, {3, 7}, {4, 9}, {6, 14}, {9, 21}, {11, 25}};
        for (int[] row : rows) {
            due.same("node " + row[0], row[1], x.travel(row[0], 0));
        }
        due.noIndex("no node after the last", () -> x.travel(12, 0));
    }

    static void promise08OneColumnOrOneRow() {
        TriggerNetwork x = Net.of("speed 10;station 0 0;grid 0 0 1 12 99;");
        TriggerNetwork y = Net.of("speed 10;station 0 0;grid 0 0 12 1 99;");
        for (int node = 0; node < 12; node++) {
            due.same("one column", node * 99, x.travel(node, 0));
            due.same("one row", node * 99, y.travel(node, 0));
        }
        TriggerNetwork z = Net.of("speed 10;station 0 0;grid 3 4 1 1 99;");
        due.same("one node", 5, z.travel(0, 0));
        due.noIndex("just one", () -> z.travel(1, 0));
    }

    static void promise08TheGreatestGrid() {
        TriggerNetwork x = Net.of("speed 1;station 0 0;station 999 999;grid 999 999 12 12 99;");
        due.same("the farthest of all: root of 8719488", 29520, x.travel(143, 0));
        due.same("root of 2371842", 15400, x.travel(143, 1));
        due.same("its own place", 0, x.travel(0, 1));
        due.noIndex("no node 144", () -> x.travel(144, 0));
    }

    static void promise08TravelTimeTruncates() {
        TriggerNetwork x = Net.of("station 6 0;station 5 0;grid 0 0 1 1 1;");
        due.same("60 / 60", 1, x.travel(0, 0));
        due.same("50 / 60", 0, x.travel(0, 1));
    }

    /** "Throws IndexOutOfBoundsException if there is no such node or station" */
    static void promise08NoSuchNode() {
        TriggerNetwork x = Net.of("station 1 1;station 2 2;");
        for (int wrong : new int[] {-1, 25, 144, LEAST, GREATEST}) {
            due.noIndex("no node", () -> x.travel(wrong, 0));
        }
        due.same("the last one is there", 18, x.travel(24, 1));
    }

    static void promise08NoSuchStation() {
        TriggerNetwork x = Net.of("station 1 1;station 2 2;");
        for (int wrong : new int[] {-1, 2, 8, LEAST, GREATEST}) {
            due.noIndex("no station", () -> x.travel(0, wrong));
            due.noIndex("neither", () -> x.travel(25, wrong));
        }
        due.same("the last one is there", 0, x.travel(0, 1));
    }

    // ---- ladder

    /** "amplitude: 0 to 99999" */
    static void promise09AmplitudeOutOfRange() {
        TriggerNetwork x = Net.of("rung 0 7;");
        due.noArgument("below", () -> x.ladder(-1));
        due.noArgument("above", () -> x.ladder(100000));
        due.noArgument("least", () -> x.ladder(LEAST));
        due.noArgument("greatest", () -> x.ladder(GREATEST));
        due.same("the lowest", 7, x.ladder(0));
        due.same("the highest", 7, x.ladder(99999));
    }

    /** "the magnitude of the last rung whose amplitude is not greater" */
    static void promise09TheLastRungNotGreater() {
        TriggerNetwork x = Net.of("rung 10 0;rung 11 5;rung 300 5;rung 301 99;");
        int[][] rows = {{10, 0}, {11, 5}, {12, 5}, {299, 5}, {300, 5}, {301, 99}, {302, 99}, {99999, 99}};
        for (int[] row : rows) {
            due.same("amplitude " + row[0], row[1], x.ladder(row[0]));
        }
    }

    /** "or NONE if there is none" */
    static void promise09NoRungIsLowEnough() {
        TriggerNetwork x = Net.of("rung 10 0;rung 11 5;");
        due.same("just below the first", -1, x.ladder(9));
        due.same("the lowest", -1, x.ladder(0));
        due.same("the first", 0, x.ladder(10));
        TriggerNetwork y = Net.of("rung 9999 3;");
        due.same("just below", -1, y.ladder(9998));
        due.same("the rung", 3, y.ladder(9999));
    }

    static void promise09NoRungs() {
        TriggerNetwork x = new TriggerNetwork();
        due.same("the lowest", -1, x.ladder(0));
        due.same("the highest", -1, x.ladder(99999));
        due.noArgument("the range holds all the same", () -> x.ladder(100000));
    }

    static void promise09EightRungs() {
        StringBuilder text = new StringBuilder();
        for (int rung = 1; rung <= 8; rung++) {
            text.append("rung ").append(rung * 10).append(' ').append(rung).append(';');
        }
        TriggerNetwork x = Net.of(text.toString());
        for (int rung = 1; rung <= 8; rung++) {
            due.same("its amplitude", rung, x.ladder(rung * 10));
            due.same("just below", rung == 1 ? -1 : rung - 1, x.ladder(rung * 10 - 1));
        }
    }
}
