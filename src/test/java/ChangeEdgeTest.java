/**
 * Promises 22 to 26: a test for each sentence of the document that names a boundary case. What a tick
 * does, up to the pick, shows in promise 23.
 */
public final class ChangeEdgeTest {
    private static final int LEAST = Integer.MIN_VALUE;
    private static final int GREATEST = Integer.MAX_VALUE;
    private static final String QUICK = "average 1 2;trigger 150 100;";
    private static final Due due = new Due();

    public static void main(String[] args) {
        due.runPromises(ChangeEdgeTest.class);
    }

    private static TriggerNetwork ready(String text) {
        TriggerNetwork x = Net.of(QUICK + text);
        x.pass(2);
        return x;
    }

    /** Stations 0 to votes - 1 have a pick each, all of them of event 0. */
    private static TriggerNetwork eventOf(int votes, int picks) {
        TriggerNetwork x = ready("station 0 0;".repeat(8) + "slack 9;votes " + votes + ";");
        for (int station = 0; station < picks; station++) {
            x.setLevel(station, 5);
        }
        x.pass(1);
        return x;
    }

    // ---- setLevel

    /** "Throws IndexOutOfBoundsException if there is no such station (checked first)" */
    static void promise22NoSuchStation() {
        TriggerNetwork x = Net.of("station 0 0;station 0 0;");
        for (int wrong : new int[] {-1, 2, 8, LEAST, GREATEST}) {
            due.noIndex("no station", () -> x.setLevel(wrong, 0));
            due.noIndex("checked first", () -> x.setLevel(wrong, -1));
            due.noIndex("checked first", () -> x.setLevel(wrong, 10000));
        }
        due.same("the last one is there", 0, x.setLevel(1, 1));
    }

    /** "level: 0 to 9999" */
    static void promise22LevelOutOfRange() {
        TriggerNetwork x = Net.of("station 0 0;");
        x.setLevel(0, 7);
        for (int wrong : new int[] {-1, 10000, LEAST, GREATEST}) {
            due.noArgument("level", () -> x.setLevel(0, wrong));
        }
        due.same("nothing is changed", 7, x.station(0, 2));
        due.same("the highest", 7, x.setLevel(0, 9999));
        due.same("the lowest", 9999, x.setLevel(0, 0));
        due.same("no change but these three", 2, x.undo());
    }

    /** "Returns the level before." A level that stays the same is a change too. */
    static void promise22LevelBefore() {
        TriggerNetwork x = Net.of("station 0 0;");
        due.same("0 at first", 0, x.setLevel(0, 0));
        due.same("0 still", 0, x.setLevel(0, 5));
        due.same("5", 5, x.setLevel(0, 5));
        due.same("three changes", 2, x.undo());
    }

    static void promise22MutedStation() {
        TriggerNetwork x = Net.of("station 0 0;");
        x.mute(0);
        due.same("a muted one has a level too", 0, x.setLevel(0, 5));
        due.same("level", 5, x.station(0, 2));
    }

    // ---- pass: its argument

    /** "ticks: 1 to 200 ... Throws IllegalArgumentException if ticks is out of range (checked first)" */
    static void promise23TicksOutOfRange() {
        TriggerNetwork x = Net.of("station 0 0;");
        for (int wrong : new int[] {0, -1, 201, LEAST, GREATEST}) {
            due.noArgument("ticks", () -> x.pass(wrong));
        }
        due.same("no tick", 0, x.tick());
        due.same("no change", -1, x.undo());
        x.pass(1);
        due.same("one", 1, x.tick());
        x.pass(200);
        due.same("200 more", 201, x.tick());
    }

    /** "Throws IllegalStateException if the tick would exceed 9999" */
    static void promise23LastTick() {
        TriggerNetwork x = Net.of("station 0 0;");
        Net.pass(x, 9800);
        due.noState("200 would be one too many", () -> x.pass(200));
        due.same("not one is done", 9800, x.tick());
        x.pass(199);
        due.same("199 are not", 9999, x.tick());
        due.noState("no tick more", () -> x.pass(1));
        due.noArgument("checked first", () -> x.pass(0));
        due.noArgument("checked first", () -> x.pass(201));
        due.same("the thrown calls are no changes", 9, x.undo());
        due.same("undone", 9800, x.tick());
    }

    /** Of 200 ticks to the last one, all are done. */
    static void promise23LastTicks() {
        TriggerNetwork x = Net.of("station 0 0;");
        Net.pass(x, 9799);
        due.same("200 more", 0, x.pass(200));
        due.same("the last", 9999, x.tick());
    }

    /** "Returns the number of new picks." */
    static void promise23NewPicks() {
        TriggerNetwork x = Net.of("station 0 0;".repeat(8) + QUICK);
        due.same("none", 0, x.pass(200));
        for (int station = 0; station < 8; station++) {
            x.setLevel(station, 5);
        }
        due.same("eight", 8, x.pass(1));
        due.same("no new ones", 0, x.pass(200));
        due.same("eight", 8, x.size(3));
    }

    /** "for each station by ascending number" */
    static void promise23StationsByAscendingNumber() {
        TriggerNetwork x = ready("station 0 0;".repeat(8));
        for (int station = 7; station >= 0; station--) {
            x.setLevel(station, 5);
        }
        x.pass(1);
        for (int station = 0; station < 8; station++) {
            due.same("pick of the same number", station, x.pick(station, 0));
        }
    }

    // ---- pass: what a tick does

    /** "It is ready if at least long ticks have passed, the present one included." */
    static void promise23ReadyAfterLongTicks() {
        int[][] spans = {{1, 1}, {1, 2}, {3, 12}, {50, 99}};
        for (int[] span : spans) {
            TriggerNetwork x = Net.of("station 0 0;average " + span[0] + " " + span[1] + ";trigger 100 0;");
            x.setLevel(0, 5);
            due.same("ready", 1, x.pass(span[1]));
            due.same("in tick " + span[1], span[1], x.pick(0, 1));
        }
    }

    /** "its ratio is at least on" */
    static void promise23RatioIsOn() {
        due.same("149", 0, ratioOf(10, 29));
        due.same("150", 1, ratioOf(10, 30));
        due.same("151", 1, ratioOf(100, 308));
    }

    /** How many picks the second level makes after the first: its ratio is 200 * second / (first + second). */
    private static int ratioOf(int first, int second) {
        TriggerNetwork x = Net.of("station 0 0;average 1 2;trigger 150 150;");
        x.setLevel(0, first);
        x.pass(1);
        x.pass(1);
        return Net.shake(x, 0, second);
    }

    /** "if its ratio is below off, it is no longer triggered" */
    static void promise23RatioBelowOff() {
        due.same("101", 1, triggeredAfter(200, 204));
        due.same("100", 1, triggeredAfter(200, 200));
        due.same("99", 0, triggeredAfter(200, 199));
    }

    private static int triggeredAfter(int first, int second) {
        TriggerNetwork x = ready("station 0 0;");
        Net.shake(x, 0, first);
        Net.shake(x, 0, second);
        return x.triggered();
    }

    /** Off 0: no ratio is below it. */
    static void promise23OffOfZero() {
        TriggerNetwork x = Net.of("station 0 0;average 1 2;trigger 1 0;");
        x.pass(2);
        due.same("on", 1, Net.shake(x, 0, 5));
        x.setLevel(0, 0);
        due.same("no other pick", 0, x.pass(200));
        due.same("ratio 0", 0, x.station(0, 5));
        due.same("triggered for ever", 1, x.triggered());
    }

    /** "If instead it was not triggered before this": a station makes one pick each time it triggers. */
    static void promise23OnePickWhileTriggered() {
        TriggerNetwork x = Net.of("station 0 0;average 1 2;trigger 100 100;");
        x.pass(2);
        due.same("one", 1, Net.shake(x, 0, 5));
        due.same("no more while the ratio holds", 0, x.pass(200));
        due.same("off", 0, Net.shake(x, 0, 4));
        due.same("off", 0, x.triggered());
        due.same("on again in the tick after", 1, x.pass(1));
        due.same("two", 2, x.size(3));
    }

    /** "with this tick as its time and the sample as its peak" */
    static void promise23TimeAndPeakOfThePick() {
        TriggerNetwork x = Net.of("station 0 0;average 1 2;trigger 150 100;");
        Net.pass(x, 9998);
        due.same("a pick in the last tick", 1, Net.shake(x, 0, 9999));
        due.same("time", 9999, x.pick(0, 1));
        due.same("peak", 9999, x.pick(0, 2));
    }

    /** "there are fewer than 60 picks" */
    static void promise23SixtyPicksAtMost() {
        TriggerNetwork x = manyPicks(59);
        x.setLevel(0, 5);
        due.same("the sixtieth", 1, Net.shake(x, 1, 5));
        due.same("of the lower station", 0, x.pick(59, 0));
        due.same("the other is not triggered", 0, x.station(1, 6));
        due.same("sixty", 60, x.size(3));
        due.noIndex("no pick", () -> x.pick(60, 0));
    }

    /** Removed picks leave no room: there are 60 picks, removed ones too. */
    static void promise23RemovedPicksLeaveNoRoom() {
        TriggerNetwork x = manyPicks(60);
        x.mute(0);
        due.same("no other pick", 0, Net.shake(x, 7, 5));
        due.same("nor is it triggered", 0, x.triggered());
        due.same("sixty", 60, x.size(3));
    }

    /** The peaks of the latest picks go on growing when there are 60. */
    static void promise23PeaksGrowWhenThereAreSixty() {
        TriggerNetwork x = manyPicks(59);
        Net.shake(x, 3, 5);
        Net.shake(x, 3, 8);
        due.same("the sixtieth", 8, x.pick(59, 2));
    }

    /** So many picks, the stations quiet again. */
    private static TriggerNetwork manyPicks(int count) {
        TriggerNetwork x = Net.of("station 0 0;".repeat(8) + "average 1 2;trigger 150 150;votes 8;");
        x.pass(2);
        for (int made = 0; made < count; made += 8) {
            for (int station = 0; station < 8; station++) {
                x.setLevel(station, station < count - made ? 5 : 0);
            }
            x.pass(1);
            for (int station = 0; station < 8; station++) {
                x.setLevel(station, 0);
            }
            x.pass(2);
        }
        due.same("so many picks", count, x.size(3));
        due.same("quiet", 0, x.triggered());
        return x;
    }

    /** "is ready and not muted": "A muted station is not triggered and makes no picks." */
    static void promise23MutedStationsMakeNoPicks() {
        TriggerNetwork x = ready("station 0 0;station 0 0;");
        x.mute(0);
        x.setLevel(0, 5);
        due.same("only the other", 1, Net.shake(x, 1, 5));
        due.same("its station", 1, x.pick(0, 0));
        due.same("not triggered", 0, x.station(0, 6));
        x.setLevel(0, 9999);
        due.same("none", 0, x.pass(200));
    }

    // ---- mute

    /** "Throws IndexOutOfBoundsException if there is no such station (checked first)" */
    static void promise24NoSuchStation() {
        TriggerNetwork x = Net.of("station 0 0;station 0 0;");
        for (int wrong : new int[] {-1, 2, 8, LEAST, GREATEST}) {
            due.noIndex("no station", () -> x.mute(wrong));
        }
        due.same("the last one is there", 0, x.mute(1));
        due.noIndex("none at all", () -> new TriggerNetwork().mute(0));
    }

    /** "Throws IllegalStateException if it is muted" */
    static void promise24MutedAlready() {
        TriggerNetwork x = Net.of("station 0 0;station 0 0;");
        x.mute(0);
        due.noState("muted", () -> x.mute(0));
        due.same("muted still", 1, x.station(0, 7));
        due.same("the other one is not", 0, x.mute(1));
        due.same("two changes", 1, x.undo());
        due.same("the thrown call was none", 0, x.undo());
    }

    /** "has fewer picks than votes tells": just as many are enough. */
    static void promise24JustEnoughVotesAreLeft() {
        for (int votes = 1; votes <= 7; votes++) {
            TriggerNetwork x = eventOf(votes, votes + 1);
            due.same("one event", 1, x.size(4));
            due.same("enough are left", 0, x.mute(votes));
            due.same("so many", votes, x.event(0, 1));
            due.same("it stands", 0, x.event(0, 0));
            due.same("too few are left", 1, x.mute(0));
            due.same("none", 0, x.event(0, 1));
            due.same("retracted", 1, x.event(0, 0));
        }
    }

    static void promise24TheOnlyPick() {
        TriggerNetwork x = eventOf(1, 1);
        due.same("retracted", 1, x.mute(0));
        due.same("none stands", 0, x.size(5));
    }

    /** "its picks are removed": all of them, those of an event and those of none, and no others. */
    static void promise24AllItsPicksAreRemoved() {
        TriggerNetwork x = Net.of("station 0 0;station 0 0;average 1 2;trigger 150 150;votes 2;slack 0;");
        x.pass(2);
        for (int k = 0; k < 3; k++) {
            x.setLevel(1, k == 1 ? 5 : 0);
            Net.shake(x, 0, 5);
            x.setLevel(1, 0);
            Net.shake(x, 0, 0);
            x.pass(1);
        }
        due.same("four picks", 4, x.size(3));
        due.same("one event", 1, x.mute(0));
        int[] removed = {1, 1, 0, 1};
        for (int pick = 0; pick < 4; pick++) {
            due.same("removed " + pick, removed[pick], x.pick(pick, 4));
            due.same("of none", -1, x.pick(pick, 3));
        }
        due.same("the picks are there", 4, x.size(3));
    }

    /** "each event that had one of them and has fewer picks than votes tells is retracted": several at once. */
    static void promise24SeveralEvents() {
        TriggerNetwork x = Net.of("station 0 0;station 0 0;average 1 2;trigger 150 150;votes 1;slack 0;");
        x.pass(2);
        for (int k = 0; k < 5; k++) {
            x.setLevel(1, k == 3 ? 5 : 0);
            Net.shake(x, k == 4 ? 1 : 0, 5);
            x.setLevel(0, 0);
            x.setLevel(1, 0);
            x.pass(2);
        }
        due.same("five events", 5, x.size(5));
        x.retract(0);
        due.same("not 0, retracted before, nor 3, with one left, nor 4, which had none", 2, x.mute(0));
        int[] retracted = {1, 1, 1, 0, 0};
        for (int event = 0; event < 5; event++) {
            due.same("event " + event, retracted[event], x.event(event, 0));
        }
        due.same("one left", 1, x.event(3, 1));
    }

    /** The picks of other stations of a retracted event "are of no event then", but not removed. */
    static void promise24PicksOfOthersAreFree() {
        TriggerNetwork x = eventOf(3, 3);
        due.same("retracted", 1, x.mute(1));
        due.same("of none", -1, x.pick(0, 3));
        due.same("not removed", 0, x.pick(0, 4));
        due.same("of none", -1, x.pick(2, 3));
        due.same("they fit", true, x.fits(0, 2));
        Net.shake(x, 7, 5);
        due.same("a new event of them", 1, x.pick(0, 3));
        due.same("without the removed one", 3, x.event(1, 1));
    }

    static void promise24StationWithoutPicks() {
        TriggerNetwork x = eventOf(3, 3);
        due.same("no event", 0, x.mute(7));
        due.same("it stands", 0, x.event(0, 0));
        due.same("muted", 1, x.station(7, 7));
    }

    /** The peaks of a muted station's picks do not grow. */
    static void promise24PeakStays() {
        TriggerNetwork x = eventOf(1, 1);
        x.mute(0);
        Net.shake(x, 0, 500);
        due.same("peak", 5, x.pick(0, 2));
        x.unmute(0);
        due.same("ratio 100", 0, Net.shake(x, 0, 500));
        due.same("peak", 5, x.pick(0, 2));
    }

    // ---- unmute

    /** "(checked first)" */
    static void promise25NoSuchStation() {
        TriggerNetwork x = Net.of("station 0 0;station 0 0;");
        x.mute(1);
        for (int wrong : new int[] {-1, 2, 8, LEAST, GREATEST}) {
            due.noIndex("no station", () -> x.unmute(wrong));
        }
        due.same("the last one is there", 0, x.unmute(1));
    }

    /** "Throws IllegalStateException if it is not muted" */
    static void promise25NotMuted() {
        TriggerNetwork x = Net.of("station 0 0;station 0 0;");
        due.noState("never muted", () -> x.unmute(0));
        x.mute(0);
        due.noState("the other", () -> x.unmute(1));
        x.unmute(0);
        due.noState("no more", () -> x.unmute(0));
        due.same("two changes", 1, x.undo());
        due.same("muted again", 1, x.station(0, 7));
    }

    /** "Returns its ratio." */
    static void promise25Ratio() {
        TriggerNetwork x = Net.of("station 0 0;average 2 4;");
        x.mute(0);
        due.same("L is 0", 0, x.unmute(0));
        x.mute(0);
        Net.shake(x, 0, 9999);
        due.same("200", 200, x.unmute(0));
        x.mute(0);
        Net.shake(x, 0, 0);
        Net.shake(x, 0, 0);
        due.same("S is 0", 0, x.unmute(0));
    }

    /** An unmuted station can trigger in the next tick, and not before. */
    static void promise25TriggersInTheNextTick() {
        TriggerNetwork x = Net.of("station 0 0;average 1 4;trigger 100 0;votes 1;");
        x.pass(4);
        x.mute(0);
        x.setLevel(0, 5);
        x.pass(1);
        due.same("ratio", 400, x.unmute(0));
        due.same("not triggered by it", 0, x.triggered());
        due.same("no pick by it", 0, x.size(3));
        due.same("in the next tick", 1, x.pass(1));
    }

    // ---- retract

    /** "(checked first)" */
    static void promise26NoSuchEvent() {
        TriggerNetwork x = eventOf(2, 2);
        for (int wrong : new int[] {-1, 1, 20, LEAST, GREATEST}) {
            due.noIndex("no event", () -> x.retract(wrong));
        }
        due.noIndex("none at all", () -> new TriggerNetwork().retract(0));
        due.same("the last one is there", 2, x.retract(0));
    }

    /** "Throws IllegalStateException if it is retracted" */
    static void promise26RetractedAlready() {
        TriggerNetwork x = eventOf(2, 2);
        x.retract(0);
        due.noState("retracted", () -> x.retract(0));
        x.undo();
        due.same("undone", 2, x.retract(0));
        x.undo();
        x.mute(0);
        due.noState("retracted by muting", () -> x.retract(0));
    }

    /** "Returns the number of picks that it had." */
    static void promise26PicksThatItHad() {
        due.same("one", 1, eventOf(1, 1).retract(0));
        due.same("eight", 8, eventOf(8, 8).retract(0));
        TriggerNetwork x = eventOf(2, 4);
        x.mute(3);
        due.same("the removed one is not of it", 3, x.retract(0));
        for (int pick = 0; pick < 4; pick++) {
            due.same("of none", -1, x.pick(pick, 3));
        }
    }

    static void promise26OtherEventsStand() {
        TriggerNetwork x = Net.of("station 0 0;average 1 2;trigger 150 150;votes 1;");
        x.pass(2);
        for (int k = 0; k < 3; k++) {
            Net.shake(x, 0, 5);
            Net.shake(x, 0, 0);
            x.pass(1);
        }
        due.same("the middle one", 1, x.retract(1));
        due.same("two stand", 2, x.size(5));
        due.same("the first", 0, x.pick(0, 3));
        due.same("its pick", -1, x.pick(1, 3));
        due.same("the last", 2, x.pick(2, 3));
    }

    /** A retraction ends no trigger, and nobody votes by it. */
    static void promise26StationsStayTriggered() {
        TriggerNetwork x = eventOf(2, 3);
        x.retract(0);
        due.same("triggered", 3, x.triggered());
        due.same("no new pick", 0, x.pass(9));
        due.same("no new event", 1, x.size(4));
    }

    // ---- changes

    /** "A method that throws an exception changes nothing." */
    static void promise22to26ThrownCallsChangeNothing() {
        TriggerNetwork x = ready("station 0 0;station 50 0;station 0 50;votes 1;slack 9;");
        Net.pass(x, 9995);
        Net.shake(x, 0, 5);
        Net.shake(x, 0, 0);
        x.mute(2);
        x.retract(0);
        String before = Net.state(x);
        due.noIndex("setLevel", () -> x.setLevel(3, 5));
        due.noArgument("setLevel", () -> x.setLevel(0, 10000));
        due.noArgument("pass", () -> x.pass(201));
        due.noState("pass", () -> x.pass(200));
        due.noIndex("mute", () -> x.mute(-1));
        due.noState("mute", () -> x.mute(2));
        due.noIndex("unmute", () -> x.unmute(3));
        due.noState("unmute", () -> x.unmute(0));
        due.noIndex("retract", () -> x.retract(1));
        due.noState("retract", () -> x.retract(0));
        due.noState("restoreSnapshot", () -> x.restoreSnapshot(0));
        due.noIndex("restoreSnapshot", () -> x.restoreSnapshot(2));
        due.noIndex("saveSnapshot", () -> x.saveSnapshot(2) ? 1 : 0);
        due.noArgument("parse", () -> x.parse(1));
        due.noState("eventsWithout", () -> x.eventsWithout(2, 9));
        due.same("state", before, Net.state(x));
        due.same("undo", 9, x.undo());
        due.same("the retraction is undone", 0, x.event(0, 0));
    }
}
