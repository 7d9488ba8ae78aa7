/** Promises 17 and 18: a test for each sentence of the document that names a boundary case. */
public final class DescriptionEdgeTest {
    private static final int LEAST = Integer.MIN_VALUE;
    private static final int GREATEST = Integer.MAX_VALUE;
    private static final Due due = new Due();

    public static void main(String[] args) {
        due.runPromises(DescriptionEdgeTest.class);
    }

    /** One event of one pick with this peak, at the only node. */
    private static TriggerNetwork oneEvent(String text, int level) {
        TriggerNetwork x = Net.of("station 0 0;average 1 2;trigger 150 100;votes 1;decay 0;" + text);
        x.pass(2);
        Net.shake(x, 0, level);
        return x;
    }

    // ---- describe

    /** "event 1 retracted, or event 0 at 40,20 with 3 votes magnitude 25": the document's examples. */
    static void promise17TheExamples() {
        TriggerNetwork x = Net.of("station 40 20;station 40 20;station 40 20;station 40 20;average 1 2;trigger 150 100;"
                + "votes 2;slack 0;grid 40 20 1 1 1;rung 5 25;");
        x.pass(2);
        for (int station = 0; station < 3; station++) {
            x.setLevel(station, 5);
        }
        x.pass(1);
        due.same("three votes", "event 0 at 40,20 with 3 votes magnitude 25", Net.described(x, 0));
        due.same("length", 42, x.describe(0));
        for (int station = 0; station < 4; station++) {
            x.setLevel(station, 0);
        }
        x.pass(2);
        x.setLevel(3, 5);
        Net.shake(x, 0, 5);
        x.retract(1);
        due.same("retracted", "event 1 retracted", Net.described(x, 1));
        due.same("length", 17, x.describe(1));
    }

    /** "and, unless its magnitude is NONE, ... the magnitude" */
    static void promise17WithoutAMagnitude() {
        due.same("no rung", "event 0 at 0,0 with 1 votes", Net.described(oneEvent("", 5), 0));
        due.same("below the first", "event 0 at 0,0 with 1 votes", Net.described(oneEvent("rung 6 9;", 5), 0));
    }

    static void promise17MagnitudeZeroIsTold() {
        due.same("0", "event 0 at 0,0 with 1 votes magnitude 0", Net.described(oneEvent("rung 5 0;", 5), 0));
    }

    static void promise17HighestMagnitude() {
        due.same("99", "event 0 at 0,0 with 1 votes magnitude 99", Net.described(oneEvent("rung 5 99;", 5), 0));
    }

    static void promise17NumberOfTwoDigits() {
        TriggerNetwork x = Net.of("station 0 0;average 1 2;trigger 150 150;votes 1;grid 999 999 12 12 99;rung 0 99;");
        x.pass(2);
        for (int k = 0; k < 20; k++) {
            Net.shake(x, 0, 5);
            Net.shake(x, 0, 0);
            x.pass(1);
        }
        due.same("the last of twenty", "event 19 at 999,999 with 1 votes magnitude 99", Net.described(x, 19));
        due.same("length", 45, x.describe(19));
    }

    /** "the x of its node, a comma, its y": a node can lie beyond 999. */
    static void promise17NodeBeyond999() {
        due.same("x", "event 0 at 1098,0 with 2 votes", far("station 999 0;station 999 99;grid 999 0 2 1 99;"));
        due.same("y", "event 0 at 0,1098 with 2 votes", far("station 0 999;station 99 999;grid 0 999 1 2 99;"));
    }

    /** The second station is 99 off the first node and the first 0, but 140 and 99 off the second node. */
    private static String far(String text) {
        TriggerNetwork x = Net.of(text + "speed 10;average 1 2;trigger 150 100;votes 2;slack 0;");
        x.pass(2);
        Net.shake(x, 0, 5);
        x.pass(40);
        Net.shake(x, 1, 5);
        return Net.described(x, 0);
    }

    static void promise17EightVotes() {
        TriggerNetwork x = Net.of("station 0 0;".repeat(8) + "average 1 2;trigger 150 100;votes 8;slack 0;");
        x.pass(2);
        for (int station = 0; station < 8; station++) {
            x.setLevel(station, 5);
        }
        x.pass(1);
        due.same("eight", "event 0 at 0,0 with 8 votes", Net.described(x, 0));
    }

    /** "A retracted event is described by the word event, a space, its number, a space and the word retracted." */
    static void promise17RetractedEvent() {
        TriggerNetwork x = oneEvent("rung 0 1;", 5);
        due.same("it stands", 39, x.describe(0));
        x.retract(0);
        due.same("retracted", "event 0 retracted", Net.described(x, 0));
        due.same("length", 17, x.describe(0));
        x.undo();
        due.same("it stands again", "event 0 at 0,0 with 1 votes magnitude 1", Net.described(x, 0));
        x.mute(0);
        due.same("retracted by muting", "event 0 retracted", Net.described(x, 0));
    }

    /** "The description stays until the next successful call of describe, whatever else is called." */
    static void promise17StaysWhateverIsCalled() {
        TriggerNetwork x = oneEvent("rung 0 1;", 5);
        String text = Net.described(x, 0);
        x.retract(0);
        due.same("retract", text, Net.described(x));
        x.undo();
        x.saveSnapshot(0);
        x.setLevel(0, 9999);
        x.pass(5);
        x.mute(0);
        x.unmute(0);
        due.same("changes", text, Net.described(x));
        x.restoreSnapshot(0);
        due.same("restoreSnapshot", text, Net.described(x));
        Net.feed(x, "?");
        due.same("a parse error", text, Net.described(x));
        x.parse(0);
        due.same("a successful parse", text, Net.described(x));
    }

    /** "the next successful call": one that throws leaves the description. */
    static void promise17ThrownCallsLeaveIt() {
        TriggerNetwork x = oneEvent("", 5);
        String text = Net.described(x, 0);
        due.noIndex("no event", () -> x.describe(1));
        due.noIndex("no event", () -> x.describe(-1));
        due.same("it stays", text, Net.described(x));
    }

    /** "Throws IndexOutOfBoundsException if there is no such event" */
    static void promise17NoSuchEvent() {
        TriggerNetwork x = oneEvent("", 5);
        for (int wrong : new int[] {-1, 1, 20, LEAST, GREATEST}) {
            due.noIndex("no event", () -> x.describe(wrong));
        }
        due.noIndex("none at all", () -> new TriggerNetwork().describe(0));
    }

    // ---- describedByte

    /** "or nothing has been described" */
    static void promise18NothingDescribed() {
        TriggerNetwork x = oneEvent("", 5);
        for (int index : new int[] {0, 1, -1, LEAST, GREATEST}) {
            due.same("nothing", -1, x.describedByte(index));
        }
        due.noIndex("no event", () -> x.describe(7));
        due.same("still nothing", -1, x.describedByte(0));
    }

    /** "NONE if the description is not so long" */
    static void promise18NotSoLong() {
        TriggerNetwork x = oneEvent("", 5);
        due.same("length", 27, x.describe(0));
        due.same("the first", 'e', x.describedByte(0));
        due.same("the last", 's', x.describedByte(26));
        due.same("the next", -1, x.describedByte(27));
        due.same("greatest", -1, x.describedByte(GREATEST));
        due.same("before the first", -1, x.describedByte(-1));
        due.same("least", -1, x.describedByte(LEAST));
    }

    /** "a byte of the latest description": nothing of a longer one before it is left. */
    static void promise18NothingOfALongerOneBefore() {
        TriggerNetwork x = oneEvent("", 5);
        x.describe(0);
        x.retract(0);
        due.same("length", 17, x.describe(0));
        due.same("the last", 'd', x.describedByte(16));
        due.same("the next", -1, x.describedByte(17));
    }
}
