/** Promises 19 to 21: a test for each sentence of the document that names a boundary case. */
public final class WouldBeEdgeTest {
    private static final int LEAST = Integer.MIN_VALUE;
    private static final int GREATEST = Integer.MAX_VALUE;
    private static final String QUICK = "average 1 2;trigger 150 100;";
    private static final Due due = new Due();

    public static void main(String[] args) {
        due.runPromises(WouldBeEdgeTest.class);
    }

    private static TriggerNetwork ready(String text) {
        TriggerNetwork x = Net.of(QUICK + text);
        x.pass(2);
        return x;
    }

    // ---- ratioAfter

    /** "Throws IndexOutOfBoundsException if there is no such station (checked first)" */
    static void promise19NoSuchStation() {
        TriggerNetwork x = Net.of("station 0 0;station 0 0;");
        for (int wrong : new int[] {-1, 2, 8, LEAST, GREATEST}) {
            due.noIndex("no station", () -> x.ratioAfter(wrong, 0, 0));
            due.noIndex("checked before the level", () -> x.ratioAfter(wrong, 10000, 0));
            due.noIndex("checked before the ticks", () -> x.ratioAfter(wrong, 0, 201));
        }
        due.same("the last one is there", 0, x.ratioAfter(1, 0, 0));
    }

    /** "level: 0 to 9999" */
    static void promise19LevelOutOfRange() {
        TriggerNetwork x = Net.of("station 0 0;");
        for (int wrong : new int[] {-1, 10000, LEAST, GREATEST}) {
            due.noArgument("level", () -> x.ratioAfter(0, wrong, 1));
            due.noArgument("level, though no tick would be done", () -> x.ratioAfter(0, wrong, 0));
        }
        due.same("the lowest", 0, x.ratioAfter(0, 0, 1));
        due.same("the highest", 400, x.ratioAfter(0, 9999, 1));
    }

    /** "ticks: 0 to 200" */
    static void promise19TicksOutOfRange() {
        TriggerNetwork x = Net.of("station 0 0;");
        for (int wrong : new int[] {-1, 201, LEAST, GREATEST}) {
            due.noArgument("ticks", () -> x.ratioAfter(0, 5, wrong));
        }
        due.same("none", 0, x.ratioAfter(0, 5, 0));
        due.same("200", 100, x.ratioAfter(0, 5, 200));
    }

    /** After 0 ticks the ratio is what it is, with any level. */
    static void promise19AfterNoTicks() {
        TriggerNetwork x = Net.of("station 0 0;average 2 3;");
        Net.shake(x, 0, 1);
        Net.shake(x, 0, 2);
        Net.shake(x, 0, 5);
        for (int level : new int[] {0, 5, 9999}) {
            due.same("7 * 300 / 16", 131, x.ratioAfter(0, level, 0));
        }
        due.same("as it is", 131, x.station(0, 5));
    }

    /** Just fewer ticks than short and long, just as many, and more. */
    static void promise19AfterAsManyTicksAsTheSpans() {
        TriggerNetwork x = Net.of("station 0 0;average 2 4;trigger 9999 0;");
        x.setLevel(0, 3);
        x.pass(4);
        int[] ratios = {100, 125, 140, 116, 100, 100};
        for (int ticks = 0; ticks < ratios.length; ticks++) {
            due.same("after " + ticks, ratios[ticks], x.ratioAfter(0, 7, ticks));
        }
        int[] silent = {100, 66, 0, 0, 0, 0};
        for (int ticks = 0; ticks < silent.length; ticks++) {
            due.same("silent after " + ticks, silent[ticks], x.ratioAfter(0, 0, ticks));
        }
    }

    static void promise19AsIfTheTicksWereDone() {
        TriggerNetwork x = Net.of("station 0 0;average 50 99;trigger 9999 0;");
        x.setLevel(0, 9999);
        x.pass(120);
        for (int ticks : new int[] {1, 49, 50, 51, 98, 99, 100, 200}) {
            int would = x.ratioAfter(0, 1, ticks);
            x.setLevel(0, 1);
            x.pass(ticks);
            due.same("after " + ticks, x.station(0, 5), would);
            x.undo();
            x.undo();
        }
    }

    /** A ratio is 0 if L is 0. */
    static void promise19LIsZero() {
        TriggerNetwork x = Net.of("station 0 0;average 1 2;");
        due.same("silence", 0, x.ratioAfter(0, 0, 200));
        Net.shake(x, 0, 5);
        due.same("L is 5", 0, x.ratioAfter(0, 0, 1));
        due.same("L is 0", 0, x.ratioAfter(0, 0, 2));
    }

    static void promise19BeyondTheLastTick() {
        TriggerNetwork x = Net.of("station 0 0;");
        Net.pass(x, 9999);
        due.same("one tick more", 400, x.ratioAfter(0, 5, 1));
        due.same("200 more", 100, x.ratioAfter(0, 5, 200));
        due.same("nothing changes", 9999, x.tick());
    }

    static void promise19NothingChanges() {
        TriggerNetwork x = ready("station 0 0;votes 1;");
        String before = Net.state(x);
        x.ratioAfter(0, 9999, 200);
        due.same("state", before, Net.state(x));
        due.same("no change to undo", 0, x.undo());
    }

    // ---- eventsWithout

    /** "(checked first)" */
    static void promise20NoSuchStation() {
        TriggerNetwork x = ready("station 0 0;station 0 0;");
        x.mute(1);
        for (int wrong : new int[] {-1, 2, 8, LEAST, GREATEST}) {
            due.noIndex("no station", () -> x.eventsWithout(wrong, 0));
            due.noIndex("checked first", () -> x.eventsWithout(wrong, -1));
            due.noIndex("checked first", () -> x.eventsWithout(wrong, 201));
        }
    }

    /** "ticks: 0 to 200 ... (checked second)" */
    static void promise20TicksOutOfRange() {
        TriggerNetwork x = ready("station 0 0;station 0 0;");
        x.mute(1);
        for (int wrong : new int[] {-1, 201, LEAST, GREATEST}) {
            due.noArgument("ticks", () -> x.eventsWithout(0, wrong));
            due.noArgument("checked second", () -> x.eventsWithout(1, wrong));
        }
        due.same("none", 0, x.eventsWithout(0, 0));
        due.same("200", 0, x.eventsWithout(0, 200));
    }

    /** "Throws IllegalStateException if the station is muted" */
    static void promise20MutedStation() {
        TriggerNetwork x = ready("station 0 0;station 0 0;");
        x.mute(1);
        due.noState("muted", () -> x.eventsWithout(1, 0));
        due.noState("muted", () -> x.eventsWithout(1, 200));
        due.same("the other is not", 0, x.eventsWithout(0, 0));
        x.unmute(1);
        due.same("no more", 0, x.eventsWithout(1, 0));
    }

    /** "if a station were muted now": an event with just enough picks is retracted, one with more is not. */
    static void promise20AfterNoTicks() {
        TriggerNetwork x = ready("station 0 0;station 0 0;station 0 0;votes 2;slack 9;");
        Net.shake(x, 0, 5);
        Net.shake(x, 1, 5);
        due.same("one vote would be left", 0, x.eventsWithout(0, 0));
        due.same("two would be left", 1, x.eventsWithout(2, 0));
        Net.shake(x, 2, 5);
        due.same("two would be left", 1, x.eventsWithout(0, 0));
        x.retract(0);
        due.same("retracted before", 0, x.eventsWithout(0, 0));
    }

    /** "after some ticks": the others go on, the muted one makes no picks. */
    static void promise20NewEventsCount() {
        TriggerNetwork x = Net.of("station 0 0;station 900 900;average 1 5;trigger 100 0;votes 1;slack 0;speed 999;");
        x.setLevel(0, 5);
        x.setLevel(1, 5);
        due.same("in tick 4 they are not ready", 0, x.eventsWithout(0, 4));
        due.same("in tick 5 the other is", 1, x.eventsWithout(0, 5));
        due.same("no more later", 1, x.eventsWithout(1, 200));
    }

    /** "the tick may then exceed 9999" */
    static void promise20BeyondTheLastTick() {
        TriggerNetwork x = Net.of("station 0 0;station 0 0;average 1 2;trigger 150 100;votes 1;");
        Net.pass(x, 9999);
        x.setLevel(1, 5);
        due.same("none yet", 0, x.eventsWithout(0, 0));
        due.same("in tick 10000", 1, x.eventsWithout(0, 1));
        due.same("in tick 10199", 1, x.eventsWithout(0, 200));
        due.same("nothing changes", 9999, x.tick());
    }

    static void promise20NothingChanges() {
        TriggerNetwork x = ready("station 0 0;station 0 0;votes 1;slack 9;");
        Net.shake(x, 0, 5);
        x.setLevel(1, 5);
        String before = Net.state(x);
        x.eventsWithout(0, 200);
        x.eventsWithout(1, 0);
        due.same("state", before, Net.state(x));
        due.same("no change to undo", 3, x.undo());
    }

    /** What would be is told anew each time. */
    static void promise20SameAgain() {
        TriggerNetwork x = ready("station 0 0;station 0 0;votes 1;slack 0;");
        Net.shake(x, 0, 5);
        due.same("the first time", 0, x.eventsWithout(0, 5));
        due.same("another", 1, x.eventsWithout(1, 5));
        due.same("the same again", 0, x.eventsWithout(0, 5));
        due.same("no event to come", -1, x.ticksToEvent());
    }

    // ---- ticksToEvent

    /** "NONE if there is none within 200 ticks" */
    static void promise21NoneWithinReach() {
        due.same("no stations", -1, new TriggerNetwork().ticksToEvent());
        TriggerNetwork x = ready("station 0 0;votes 1;");
        due.same("silence", -1, x.ticksToEvent());
        TriggerNetwork y = ready("station 0 0;station 0 0;votes 3;slack 9;");
        y.setLevel(0, 5);
        y.setLevel(1, 5);
        due.same("too few votes", -1, y.ticksToEvent());
    }

    /** "Returns 1 to 200" */
    static void promise21InTheNextTick() {
        TriggerNetwork x = ready("station 0 0;votes 1;");
        x.setLevel(0, 5);
        due.same("the next", 1, x.ticksToEvent());
        x.pass(1);
        due.same("it is there", 1, x.size(4));
        due.same("no other follows", -1, x.ticksToEvent());
    }

    /** The longest time that samples can make: L forgets the old level after 99 ticks. */
    static void promise21After99Ticks() {
        TriggerNetwork x = Net.of("station 0 0;average 1 99;trigger 100 100;votes 1;");
        x.pass(99);
        x.setLevel(0, 9999);
        x.pass(1);
        due.same("an event", 1, x.size(4));
        x.setLevel(0, 9998);
        due.same("below off after 98, on again after 99", 99, x.ticksToEvent());
        x.setLevel(0, 9999);
        due.same("triggered still", -1, x.ticksToEvent());
        TriggerNetwork y = Net.of("station 0 0;average 50 99;trigger 100 100;votes 1;");
        y.setLevel(0, 9999);
        y.pass(98);
        y.setLevel(0, 1);
        due.same("below on in tick 99, and until L is all 1", 99, y.ticksToEvent());
        y.pass(98);
        due.same("not yet", 0, y.size(4));
        due.same("the next", 1, y.ticksToEvent());
    }

    /** "Returns after how many ticks there would be a new event": one that joins is none. */
    static void promise21JoiningIsNoNewEvent() {
        TriggerNetwork x = ready("station 0 0;station 0 0;votes 1;slack 9;");
        Net.shake(x, 0, 5);
        x.setLevel(1, 5);
        due.same("it would join", -1, x.ticksToEvent());
        x.pass(1);
        due.same("it has joined", 0, x.pick(1, 3));
    }

    static void promise21NoNewEventAfterTwenty() {
        TriggerNetwork x = Net.of("station 0 0;average 1 2;trigger 150 150;votes 1;");
        x.pass(2);
        for (int event = 0; event < 20; event++) {
            x.setLevel(0, 5);
            due.same("one comes", 1, x.ticksToEvent());
            x.pass(1);
            Net.shake(x, 0, 0);
            x.pass(1);
        }
        x.setLevel(0, 5);
        due.same("twenty are there", -1, x.ticksToEvent());
    }

    /** A retracted event before does not hide a new one. */
    static void promise21AfterARetraction() {
        TriggerNetwork x = Net.of("station 0 0;average 1 2;trigger 150 150;votes 1;");
        x.pass(2);
        Net.shake(x, 0, 5);
        Net.shake(x, 0, 0);
        x.pass(1);
        x.retract(0);
        x.setLevel(0, 5);
        due.same("a new one", 1, x.ticksToEvent());
    }

    /** "the tick may then exceed 9999" */
    static void promise21BeyondTheLastTick() {
        TriggerNetwork x = Net.of("station 0 0;average 1 2;trigger 150 100;votes 1;");
        Net.pass(x, 9999);
        x.setLevel(0, 5);
        due.same("in tick 10000", 1, x.ticksToEvent());
        due.same("nothing changes", 9999, x.tick());
        due.same("no event", 0, x.size(4));
        TriggerNetwork y = Net.of("station 0 0;station 0 0;average 1 50;trigger 100 100;votes 1;");
        y.setLevel(0, 5);
        y.pass(30);
        y.setLevel(0, 1);
        Net.pass(y, 9969 - 20);
        due.same("triggered long ago", 1, y.size(4));
        y.setLevel(1, 9);
        y.pass(20);
        due.same("the event is there", 2, y.size(4));
        due.same("the last tick", 9999, y.tick());
        due.same("no other", -1, y.ticksToEvent());
    }

    static void promise21NothingChanges() {
        TriggerNetwork x = ready("station 0 0;station 0 0;votes 1;slack 9;");
        x.setLevel(0, 5);
        String before = Net.state(x);
        due.same("one comes", 1, x.ticksToEvent());
        due.same("state", before, Net.state(x));
        due.same("no change to undo", 1, x.undo());
        due.same("none comes", -1, x.ticksToEvent());
    }
}
