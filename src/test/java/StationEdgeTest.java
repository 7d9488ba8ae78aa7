/** Promises 10 and 11: a test for each sentence of the document that names a boundary case. */
public final class StationEdgeTest {
    private static final int LEAST = Integer.MIN_VALUE;
    private static final int GREATEST = Integer.MAX_VALUE;
    private static final Due due = new Due();

    public static void main(String[] args) {
        due.runPromises(StationEdgeTest.class);
    }

    // ---- station

    /** "Throws IndexOutOfBoundsException if there is no such station (checked first)" */
    static void promise10NoSuchStation() {
        TriggerNetwork x = Net.of("station 1 1;station 2 2;");
        for (int wrong : new int[] {-1, 2, 8, LEAST, GREATEST}) {
            due.noIndex("no station", () -> x.station(wrong, 0));
            due.noIndex("checked first", () -> x.station(wrong, -1));
            due.noIndex("checked first", () -> x.station(wrong, 8));
        }
        due.same("the last one is there", 2, x.station(1, 0));
    }

    static void promise10EightStations() {
        TriggerNetwork x = Net.of("station 1 1;".repeat(7) + "station 8 9;");
        due.same("x of the eighth", 8, x.station(7, 0));
        due.same("y of the eighth", 9, x.station(7, 1));
        due.noIndex("no ninth", () -> x.station(8, 0));
    }

    /** "Throws IllegalArgumentException if what is out of range" */
    static void promise10WhatOutOfRange() {
        TriggerNetwork x = Net.of("station 5 6;");
        for (int wrong : new int[] {-1, 8, LEAST, GREATEST}) {
            due.noArgument("no such property", () -> x.station(0, wrong));
        }
        due.same("the lowest", 5, x.station(0, 0));
        due.same("the highest", 0, x.station(0, 7));
    }

    static void promise10PlacesAtTheEdges() {
        TriggerNetwork x = Net.of("station 0 999;station 999 0;");
        due.same("x", 0, x.station(0, 0));
        due.same("y", 999, x.station(0, 1));
        due.same("x", 999, x.station(1, 0));
        due.same("y", 0, x.station(1, 1));
    }

    /** "Each station has a level, 0 at first. In each tick its sample is its level." */
    static void promise10LevelIsZeroAtFirst() {
        TriggerNetwork x = Net.of("station 0 0;station 0 0;");
        x.pass(20);
        due.same("level", 0, x.station(0, 2));
        due.same("S", 0, x.station(0, 3));
        x.setLevel(0, 9999);
        due.same("the highest level", 9999, x.station(0, 2));
        due.same("no tick, no sample", 0, x.station(0, 3));
        due.same("no tick, no sample", 0, x.station(0, 4));
        x.pass(1);
        due.same("a sample", 9999, x.station(0, 3));
        due.same("the other's level", 0, x.station(1, 2));
        due.same("the other's sample", 0, x.station(1, 3));
    }

    /** "samples before the first tick count as 0" */
    static void promise10SamplesBeforeTheFirstTickAreZero() {
        TriggerNetwork x = Net.of("station 0 0;average 3 5;");
        due.same("S of none", 0, x.station(0, 3));
        due.same("L of none", 0, x.station(0, 4));
        x.setLevel(0, 7);
        int[][] sums = {{7, 7}, {14, 14}, {21, 21}, {21, 28}, {21, 35}, {21, 35}};
        int[] ratios = {166, 166, 166, 125, 100, 100};
        for (int tick = 0; tick < sums.length; tick++) {
            x.pass(1);
            due.same("S", sums[tick][0], x.station(0, 3));
            due.same("L", sums[tick][1], x.station(0, 4));
            due.same("ratio", ratios[tick], x.station(0, 5));
        }
    }

    /** "S is the sum of its latest short samples, L that of its latest long samples" */
    static void promise10SumsOfTheLatestSamples() {
        TriggerNetwork x = Net.of("station 0 0;average 2 3;trigger 9999 0;");
        int[] levels = {1, 10, 100, 1000, 0, 0, 0};
        int[][] sums = {{1, 1}, {11, 11}, {110, 111}, {1100, 1110}, {1000, 1100}, {0, 1000}, {0, 0}};
        for (int tick = 0; tick < levels.length; tick++) {
            x.setLevel(0, levels[tick]);
            x.pass(1);
            due.same("S", sums[tick][0], x.station(0, 3));
            due.same("L", sums[tick][1], x.station(0, 4));
        }
    }

    static void promise10ShortestSpans() {
        TriggerNetwork x = Net.of("station 0 0;average 1 1;trigger 9999 0;");
        for (int level : new int[] {5, 9999, 0, 3}) {
            x.setLevel(0, level);
            x.pass(1);
            due.same("S", level, x.station(0, 3));
            due.same("L", level, x.station(0, 4));
            due.same("ratio", level == 0 ? 0 : 100, x.station(0, 5));
        }
    }

    /** Short 50 and long 99 with the highest level: the products are greater than an int. */
    static void promise10LongestSpans() {
        TriggerNetwork x = Net.of("station 0 0;average 50 99;trigger 9999 0;");
        x.setLevel(0, 9999);
        x.pass(50);
        due.same("S", 499950, x.station(0, 3));
        due.same("L", 499950, x.station(0, 4));
        due.same("9900 / 50", 198, x.station(0, 5));
        x.pass(49);
        due.same("L", 989901, x.station(0, 4));
        due.same("ratio", 100, x.station(0, 5));
        x.setLevel(0, 0);
        x.pass(50);
        due.same("S", 0, x.station(0, 3));
        due.same("L", 489951, x.station(0, 4));
        x.pass(48);
        due.same("L has one left", 9999, x.station(0, 4));
        x.pass(1);
        due.same("L has none left", 0, x.station(0, 4));
    }

    static void promise10LongSpanOfManyTicks() {
        TriggerNetwork x = Net.of("station 0 0;average 1 99;trigger 9999 0;");
        x.setLevel(0, 1);
        x.pass(1);
        x.setLevel(0, 0);
        x.pass(98);
        due.same("the 99th counts", 1, x.station(0, 4));
        x.pass(1);
        due.same("the 100th does not", 0, x.station(0, 4));
    }

    /** With long 99, tick 99 is the last whose L has no sample before the first tick, for each station. */
    static void promise10SamplesBeforeTheFirstTickOfLongSpans() {
        TriggerNetwork x = Net.of("station 0 0;station 0 0;station 0 0;average 50 99;trigger 9999 0;");
        for (int station = 0; station < 3; station++) {
            x.setLevel(station, station + 7);
        }
        x.pass(49);
        for (int tick = 49; tick <= 101; tick++) {
            for (int station = 0; station < 3; station++) {
                due.same("S in tick " + tick, Math.min(tick, 50) * (station + 7), x.station(station, 3));
                due.same("L in tick " + tick, Math.min(tick, 99) * (station + 7), x.station(station, 4));
            }
            x.pass(1);
        }
    }

    /** "or 0 if L is 0" */
    static void promise10RatioIsZeroIfLIsZero() {
        TriggerNetwork x = Net.of("station 0 0;average 1 2;trigger 1 1;");
        due.same("before the first tick", 0, x.station(0, 5));
        x.pass(5);
        due.same("silence", 0, x.station(0, 5));
        due.same("no pick of it", 0, x.size(3));
        x.setLevel(0, 1);
        due.same("one sample", 1, x.pass(1));
        due.same("ratio", 200, x.station(0, 5));
        x.setLevel(0, 0);
        x.pass(1);
        due.same("S is 0, L is not", 0, x.station(0, 5));
        due.same("L", 1, x.station(0, 4));
        x.pass(1);
        due.same("L", 0, x.station(0, 4));
        due.same("L is 0 again", 0, x.station(0, 5));
    }

    /** "S * long * 100 / (L * short)", where / truncates */
    static void promise10RatioTruncates() {
        TriggerNetwork x = Net.of("station 0 0;average 2 3;trigger 9999 0;");
        x.setLevel(0, 2);
        x.pass(1);
        x.setLevel(0, 1);
        x.pass(1);
        due.same("3 * 300 / 6", 150, x.station(0, 5));
        x.pass(1);
        due.same("2 * 300 / 8", 75, x.station(0, 5));
        x.setLevel(0, 5);
        x.pass(1);
        due.same("6 * 300 / 14", 128, x.station(0, 5));
        x.setLevel(0, 0);
        x.pass(1);
        due.same("5 * 300 / 12", 125, x.station(0, 5));
    }

    static void promise10HighestRatio() {
        TriggerNetwork x = Net.of("station 0 0;average 1 99;trigger 9999 0;");
        x.setLevel(0, 9999);
        x.pass(1);
        due.same("9999 * 9900 / 9999", 9900, x.station(0, 5));
    }

    /** "6 whether it is triggered (1 or 0), 7 whether it is muted (1 or 0)" */
    static void promise10Flags() {
        TriggerNetwork x = Net.of("station 0 0;station 0 0;average 1 2;trigger 150 100;");
        x.pass(2);
        due.same("quiet", 0, x.station(0, 6));
        Net.shake(x, 0, 5);
        due.same("triggered", 1, x.station(0, 6));
        due.same("the other is not", 0, x.station(1, 6));
        due.same("not muted", 0, x.station(0, 7));
        x.mute(0);
        due.same("muted", 1, x.station(0, 7));
        due.same("the other is not", 0, x.station(1, 7));
        due.same("a muted station is not triggered", 0, x.station(0, 6));
        x.unmute(0);
        due.same("no more", 0, x.station(0, 7));
    }

    /** A muted station's samples and ratio go on. */
    static void promise10MutedStationsHaveSamples() {
        TriggerNetwork x = Net.of("station 0 0;average 1 2;");
        x.mute(0);
        x.setLevel(0, 8);
        x.pass(1);
        due.same("S", 8, x.station(0, 3));
        due.same("L", 8, x.station(0, 4));
        due.same("ratio", 200, x.station(0, 5));
    }

    // ---- triggered

    static void promise11NoneAtFirst() {
        due.same("no stations", 0, new TriggerNetwork().triggered());
        due.same("eight quiet ones", 0, Net.of("station 0 0;".repeat(8)).triggered());
    }

    static void promise11AllOfEight() {
        TriggerNetwork x = Net.of("station 0 0;".repeat(8) + "average 1 2;trigger 150 100;");
        x.pass(2);
        for (int station = 0; station < 8; station++) {
            Net.shake(x, station, 5);
            due.same("so many", station + 1, x.triggered());
        }
        for (int station = 7; station >= 0; station--) {
            Net.shake(x, station, 0);
            due.same("so many", station, x.triggered());
        }
    }

    /** "A muted station is not triggered" */
    static void promise11MutedOnesAreNot() {
        TriggerNetwork x = Net.of("station 0 0;station 0 0;average 1 2;trigger 150 100;");
        x.pass(2);
        x.setLevel(0, 5);
        Net.shake(x, 1, 5);
        due.same("both", 2, x.triggered());
        x.mute(1);
        due.same("one", 1, x.triggered());
        x.unmute(1);
        due.same("it stays off", 1, x.triggered());
        x.undo();
        x.undo();
        due.same("both again", 2, x.triggered());
    }

    static void promise11ANewTextHasNone() {
        TriggerNetwork x = Net.of("station 0 0;average 1 2;trigger 150 100;");
        x.pass(2);
        Net.shake(x, 0, 5);
        due.same("one", 1, x.triggered());
        x.parse(0);
        due.same("none", 0, x.triggered());
    }
}
