import java.util.function.ToIntFunction;

/** Promises 27 to 29: a test for each sentence of the document that names a boundary case. */
public final class UndoEdgeTest {
    private static final int LEAST = Integer.MIN_VALUE;
    private static final int GREATEST = Integer.MAX_VALUE;
    private static final Due due = new Due();

    public static void main(String[] args) {
        due.runPromises(UndoEdgeTest.class);
    }

    /** Two events in tick 9, the first of two picks, and two stations that are triggered. */
    private static TriggerNetwork busy() {
        TriggerNetwork x = Net.of("station 0 0;station 30 30;station 40 40;average 2 3;trigger 120 100;votes 1;slack 1;"
                + "speed 400;rung 1 1;rung 50 2;");
        x.pass(3);
        x.setLevel(0, 40);
        x.setLevel(1, 60);
        x.pass(1);
        x.setLevel(0, 1);
        x.pass(3);
        x.setLevel(2, 9);
        x.pass(2);
        return x;
    }

    // ---- undo

    /** "NONE if there was none to undo" */
    static void promise27NothingToUndo() {
        TriggerNetwork x = Net.of("station 0 0;");
        String before = Net.state(x);
        for (int k = 0; k < 3; k++) {
            due.same("none", -1, x.undo());
        }
        due.same("nothing is changed", before, Net.state(x));
        x.setLevel(0, 5);
        due.same("one", 0, x.undo());
        due.same("none left", -1, x.undo());
        x.setLevel(0, 5);
        due.same("none is owed", 0, x.undo());
        due.same("level", 0, x.station(0, 2));
    }

    /** "The latest 10 changes can be undone, the latest first." */
    static void promise27TenChanges() {
        TriggerNetwork x = Net.of("station 0 0;");
        for (int level = 1; level <= 10; level++) {
            x.setLevel(0, level);
        }
        for (int left = 9; left >= 0; left--) {
            due.same("left", left, x.undo());
            due.same("the latest first", left, x.station(0, 2));
        }
        due.same("none left", -1, x.undo());
    }

    static void promise27ElevenChanges() {
        for (int changes = 11; changes <= 21; changes++) {
            TriggerNetwork x = Net.of("station 0 0;");
            for (int level = 1; level <= changes; level++) {
                x.setLevel(0, level);
            }
            for (int left = 9; left >= 0; left--) {
                due.same("left", left, x.undo());
                due.same("level", changes - 10 + left, x.station(0, 2));
            }
            due.same("the others stay", -1, x.undo());
            due.same("level", changes - 10, x.station(0, 2));
        }
    }

    /** The history wraps around: changes after undone ones take their places. */
    static void promise27ChangesAfterUndo() {
        TriggerNetwork x = Net.of("station 0 0;");
        for (int level = 1; level <= 13; level++) {
            x.setLevel(0, level);
        }
        for (int k = 0; k < 4; k++) {
            x.undo();
        }
        due.same("level", 9, x.station(0, 2));
        for (int level = 101; level <= 106; level++) {
            x.setLevel(0, level);
        }
        int[] levels = {105, 104, 103, 102, 101, 9, 8, 7, 6, 5};
        for (int k = 0; k < 10; k++) {
            due.same("left", 9 - k, x.undo());
            due.same("level", levels[k], x.station(0, 2));
        }
        due.same("the fifth was one of the ten", -1, x.undo());
    }

    /** "Undoes the latest change that has not been undone." */
    static void promise27NotTheUndoneOne() {
        TriggerNetwork x = Net.of("station 0 0;");
        x.setLevel(0, 1);
        x.setLevel(0, 2);
        due.same("the second", 1, x.undo());
        due.same("level", 1, x.station(0, 2));
        due.same("the first", 0, x.undo());
        due.same("level", 0, x.station(0, 2));
        due.same("undo is no change", -1, x.undo());
    }

    /** "The methods from setLevel to retract are changes if they succeed": each is taken back whole. */
    static void promise27UndoesSetLevel() {
        undoes(x -> x.setLevel(0, 9999));
    }

    static void promise27UndoesPass() {
        undoes(x -> x.pass(200));
        undoes(x -> x.pass(1));
    }

    static void promise27UndoesMute() {
        undoes(x -> x.mute(0));
        undoes(x -> x.mute(2));
    }

    static void promise27UndoesUnmute() {
        TriggerNetwork x = busy();
        x.mute(2);
        String before = Net.state(x);
        x.unmute(2);
        x.undo();
        due.same("state", before, Net.state(x));
    }

    static void promise27UndoesRetract() {
        undoes(x -> x.retract(0));
        undoes(x -> x.retract(1));
    }

    private static void undoes(ToIntFunction<TriggerNetwork> change) {
        TriggerNetwork x = busy();
        due.same("two events", 2, x.size(4));
        due.same("two stations", 2, x.triggered());
        String before = Net.state(x);
        int next = x.ratioAfter(0, 7, 1);
        change.applyAsInt(x);
        x.undo();
        due.same("state", before, Net.state(x));
        due.same("samples", next, x.ratioAfter(0, 7, 1));
    }

    /** No other method is a change: not the looking ones, nor append, parse errors and snapshots. */
    static void promise27OtherMethodsAreNoChanges() {
        TriggerNetwork x = Net.of("station 0 0;average 1 2;trigger 150 100;votes 1;");
        x.pass(2);
        x.setLevel(0, 5);
        x.pass(1);
        x.saveSnapshot(0);
        x.append(0, 0, 0, 0, 0);
        x.parse(20);
        x.describe(0);
        x.ratioAfter(0, 9, 9);
        x.eventsWithout(0, 9);
        x.ticksToEvent();
        due.same("three changes", 2, x.undo());
        due.same("the last was the tick", 2, x.tick());
    }

    /** "if they succeed" */
    static void promise27ThrownCallsAreNoChanges() {
        TriggerNetwork x = Net.of("station 0 0;");
        x.setLevel(0, 5);
        due.noArgument("thrown", () -> x.setLevel(0, 10000));
        due.noArgument("thrown", () -> x.pass(0));
        due.noState("thrown", () -> x.unmute(0));
        due.noIndex("thrown", () -> x.mute(1));
        due.noIndex("thrown", () -> x.retract(0));
        due.same("one change", 0, x.undo());
    }

    /** The peak that grows is again that of the pick that was the latest then. */
    static void promise27TheLatestPickThen() {
        TriggerNetwork x = Net.of("station 0 0;average 1 2;trigger 150 100;votes 1;");
        x.pass(2);
        Net.shake(x, 0, 5);
        x.setLevel(0, 0);
        x.pass(2);
        due.same("a second pick", 1, Net.shake(x, 0, 6));
        for (int k = 0; k < 4; k++) {
            x.undo();
        }
        due.same("one pick", 1, x.size(3));
        Net.shake(x, 0, 70);
        due.same("its peak", 70, x.pick(0, 2));
    }

    static void promise27UndoPastTheLastTick() {
        TriggerNetwork x = new TriggerNetwork();
        Net.pass(x, 9999);
        due.noState("full", () -> x.pass(1));
        due.same("ten", 9, x.undo());
        due.same("tick", 9800, x.tick());
        due.same("ticks can pass again", 0, x.pass(199));
        due.same("ten again", 9, x.undo());
    }

    /** "restoreSnapshot: The undo history is cleared", and a successful parse clears it too. */
    static void promise27ClearedHistory() {
        TriggerNetwork x = Net.of("station 0 0;");
        x.setLevel(0, 1);
        x.saveSnapshot(1);
        x.setLevel(0, 2);
        x.restoreSnapshot(1);
        due.same("after restoreSnapshot", -1, x.undo());
        x.setLevel(0, 3);
        due.same("parse", 0, x.parse(0));
        due.same("after parse", -1, x.undo());
    }

    // ---- saveSnapshot

    /** "Throws IndexOutOfBoundsException if there is no such slot" */
    static void promise28NoSuchSlot() {
        TriggerNetwork x = Net.of("station 0 0;");
        for (int wrong : new int[] {-1, 2, LEAST, GREATEST}) {
            due.noIndex("no slot", () -> x.saveSnapshot(wrong) ? 1 : 0);
        }
        due.noState("slot 0 is empty", () -> x.restoreSnapshot(0));
        due.noState("slot 1 is empty", () -> x.restoreSnapshot(1));
        due.same("the first", false, x.saveSnapshot(0));
        due.same("the last", false, x.saveSnapshot(1));
    }

    /** "Returns whether there was an earlier one." */
    static void promise28EarlierOne() {
        TriggerNetwork x = new TriggerNetwork();
        due.same("none", false, x.saveSnapshot(0));
        due.same("one", true, x.saveSnapshot(0));
        due.same("none in the other", false, x.saveSnapshot(1));
        x.restoreSnapshot(1);
        due.same("a restored one stays", true, x.saveSnapshot(1));
        x.pass(1);
        x.undo();
        due.same("undo takes none away", true, x.saveSnapshot(0));
        due.same("parse", 0, x.parse(0));
        due.same("both are emptied", false, x.saveSnapshot(0));
        due.same("both are emptied", false, x.saveSnapshot(1));
    }

    /** A parse error empties no slot. */
    static void promise28AfterAParseError() {
        TriggerNetwork x = new TriggerNetwork();
        x.saveSnapshot(0);
        due.same("error", 1, Net.feed(x, "?"));
        due.same("an earlier one", true, x.saveSnapshot(0));
        due.same("the other is empty", false, x.saveSnapshot(1));
    }

    /** "in place of an earlier one" */
    static void promise28InPlaceOfAnEarlierOne() {
        TriggerNetwork x = new TriggerNetwork();
        x.saveSnapshot(0);
        x.pass(3);
        x.saveSnapshot(1);
        x.pass(4);
        x.saveSnapshot(0);
        x.pass(5);
        due.same("the later one", 7, x.restoreSnapshot(0));
        due.same("the other slot", 3, x.restoreSnapshot(1));
    }

    /** Saving changes nothing but the slot: undo goes on as before. */
    static void promise28IsNoChange() {
        TriggerNetwork x = Net.of("station 0 0;");
        x.setLevel(0, 5);
        x.saveSnapshot(0);
        due.same("one change", 0, x.undo());
        due.same("level", 0, x.station(0, 2));
        x.restoreSnapshot(0);
        due.same("the slot is as it was", 5, x.station(0, 2));
    }

    // ---- restoreSnapshot

    /** "Throws IndexOutOfBoundsException if there is no such slot (checked first)" */
    static void promise29NoSuchSlot() {
        TriggerNetwork x = new TriggerNetwork();
        for (int wrong : new int[] {-1, 2, LEAST, GREATEST}) {
            due.noIndex("no slot", () -> x.restoreSnapshot(wrong));
        }
        x.saveSnapshot(0);
        x.saveSnapshot(1);
        due.noIndex("no slot", () -> x.restoreSnapshot(2));
        due.noIndex("no slot", () -> x.restoreSnapshot(-1));
    }

    /** "Throws IllegalStateException if the slot is empty" */
    static void promise29EmptySlot() {
        TriggerNetwork x = Net.of("station 0 0;");
        x.setLevel(0, 5);
        due.noState("slot 0", () -> x.restoreSnapshot(0));
        due.noState("slot 1", () -> x.restoreSnapshot(1));
        x.saveSnapshot(1);
        due.noState("slot 0 still", () -> x.restoreSnapshot(0));
        due.same("slot 1", 0, x.restoreSnapshot(1));
        due.same("the level is back", 5, x.station(0, 2));
        due.noState("slot 0 still", () -> x.restoreSnapshot(0));
    }

    static void promise29ThrownCallsClearNoHistory() {
        TriggerNetwork x = Net.of("station 0 0;");
        x.setLevel(0, 5);
        x.setLevel(0, 6);
        due.noState("slot 0", () -> x.restoreSnapshot(0));
        due.noIndex("no slot", () -> x.restoreSnapshot(2));
        due.same("two changes", 1, x.undo());
    }

    /** "which stays stored", whatever is done after it was restored. */
    static void promise29StaysStored() {
        TriggerNetwork x = busy();
        x.saveSnapshot(0);
        String before = Net.state(x);
        for (int k = 0; k < 3; k++) {
            x.setLevel(k, 500);
            x.pass(7);
            x.mute(k);
            due.same("tick", 9, x.restoreSnapshot(0));
            due.same("state", before, Net.state(x));
        }
    }

    /** "a snapshot holds everything that changes can change", the samples too. */
    static void promise29HoldsAll() {
        TriggerNetwork x = busy();
        String before = Net.state(x);
        int[] ratios = {x.ratioAfter(0, 7, 1), x.ratioAfter(1, 7, 1), x.ratioAfter(2, 7, 2)};
        x.saveSnapshot(1);
        x.retract(0);
        x.mute(1);
        x.setLevel(2, 0);
        x.setLevel(0, 9999);
        x.pass(200);
        due.same("tick", 9, x.restoreSnapshot(1));
        due.same("state", before, Net.state(x));
        due.same("samples", ratios[0], x.ratioAfter(0, 7, 1));
        due.same("samples", ratios[1], x.ratioAfter(1, 7, 1));
        due.same("samples", ratios[2], x.ratioAfter(2, 7, 2));
    }

    /** Picks and events of another history stood in the same places meanwhile. */
    static void promise29PicksAndEventsOfAnotherHistory() {
        TriggerNetwork x = Net.of("station 0 0;station 0 0;average 1 2;trigger 150 150;votes 1;slack 0;");
        x.pass(2);
        x.saveSnapshot(0);
        Net.shake(x, 0, 5);
        Net.shake(x, 0, 0);
        x.pass(1);
        Net.shake(x, 0, 6);
        x.saveSnapshot(1);
        String before = Net.state(x);
        x.restoreSnapshot(0);
        x.pass(9);
        x.setLevel(0, 7);
        Net.shake(x, 1, 7);
        x.mute(1);
        x.mute(0);
        due.same("another history", 12, x.pick(0, 1));
        x.restoreSnapshot(1);
        due.same("state", before, Net.state(x));
        Net.shake(x, 0, 8);
        due.same("the latest pick is the second", 8, x.pick(1, 2));
        due.same("not the first", 5, x.pick(0, 2));
    }

    /** "The undo history is cleared." */
    static void promise29ClearsTheHistory() {
        TriggerNetwork x = Net.of("station 0 0;");
        for (int level = 1; level <= 12; level++) {
            x.setLevel(0, level);
        }
        x.saveSnapshot(0);
        x.restoreSnapshot(0);
        due.same("nothing to undo", -1, x.undo());
        due.same("level", 12, x.station(0, 2));
        for (int level = 1; level <= 12; level++) {
            x.setLevel(0, level);
        }
        due.same("ten of the new ones", 9, x.undo());
    }

    /** "Returns the number of the tick then." */
    static void promise29Tick() {
        TriggerNetwork x = new TriggerNetwork();
        x.saveSnapshot(0);
        Net.pass(x, 9999);
        x.saveSnapshot(1);
        due.same("the first", 0, x.restoreSnapshot(0));
        due.same("tick", 0, x.tick());
        due.same("the last", 9999, x.restoreSnapshot(1));
        due.same("tick", 9999, x.tick());
        due.noState("no later one", () -> x.pass(1));
    }
}
