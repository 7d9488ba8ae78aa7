/** Promises 27 to 29: undo and snapshots. */
public final class UndoTest {
    private static final String QUICK = "average 1 2;trigger 150 100;";
    private static final Due due = new Due();

    public static void main(String[] args) {
        undoesEach();
        undoesTen();
        undoesAll();
        samplesComeBack();
        latestPickComesBack();
        picksAndEventsComeBack();
        snapshots();
        snapshotHoldsAll();
        slots();
        due.finish();
    }

    private static TriggerNetwork withEvent() {
        TriggerNetwork x = Net.of("station 0 0;station 0 0;" + QUICK + "votes 1;slack 9;rung 1 1;rung 50 2;");
        x.pass(2);
        x.setLevel(0, 5);
        x.pass(1);
        return x;
    }

    private static void undoesEach() {
        TriggerNetwork x = withEvent();
        x.setLevel(0, 6);
        x.mute(1);
        x.unmute(1);
        x.retract(0);
        due.same("retract", 6, x.undo());
        due.same("stands", 0, x.event(0, 0));
        due.same("its pick", 0, x.pick(0, 3));
        due.same("unmute", 5, x.undo());
        due.same("muted", 1, x.station(1, 7));
        due.same("mute", 4, x.undo());
        due.same("not muted", 0, x.station(1, 7));
        due.same("setLevel", 3, x.undo());
        due.same("level", 5, x.station(0, 2));
        due.same("pass", 2, x.undo());
        due.same("tick", 2, x.tick());
        due.same("picks", 0, x.size(3));
        due.same("events", 0, x.size(4));
        due.same("triggered", 0, x.triggered());
        due.same("S", 0, x.station(0, 3));
        due.same("setLevel", 1, x.undo());
        due.same("level", 0, x.station(0, 2));
        due.same("pass", 0, x.undo());
        due.same("tick", 0, x.tick());
        due.same("none", -1, x.undo());
        due.same("tick", 0, x.tick());
    }

    private static void undoesTen() {
        TriggerNetwork x = Net.of("station 0 0;");
        for (int level = 1; level <= 25; level++) {
            x.setLevel(0, level);
        }
        for (int left = 9; left >= 0; left--) {
            due.same("left", left, x.undo());
            due.same("level", 15 + left, x.station(0, 2));
        }
        due.same("none", -1, x.undo());
        due.same("level", 15, x.station(0, 2));
        x.setLevel(0, 15);
        due.same("a change to the same level counts", 0, x.undo());
        x.setLevel(0, 1);
        x.setLevel(0, 2);
        x.undo();
        x.setLevel(0, 3);
        due.same("the undone one is gone", 1, x.undo());
        due.same("level", 1, x.station(0, 2));
    }

    /** Nothing but the changes can be undone. */
    private static void undoesAll() {
        TriggerNetwork x = withEvent();
        x.describe(0);
        x.ticksToEvent();
        x.saveSnapshot(0);
        x.append(0, 0, 0, 0, 0);
        due.same("three changes", 2, x.undo());
        due.same("the buffer stays", 40, x.append(0, 0, 0, 0, 0));
        due.same("the description stays", 'e', x.describedByte(0));
        due.same("the snapshot stays", true, x.saveSnapshot(0));
    }

    private static void samplesComeBack() {
        TriggerNetwork x = Net.of("station 0 0;average 3 5;trigger 9999 0;");
        for (int level = 1; level <= 6; level++) {
            x.setLevel(0, level);
            x.pass(1);
        }
        x.setLevel(0, 100);
        x.pass(200);
        x.undo();
        due.same("S", 15, x.station(0, 3));
        due.same("L", 20, x.station(0, 4));
        x.undo();
        due.same("level", 6, x.station(0, 2));
        x.setLevel(0, 0);
        x.pass(2);
        due.same("S", 6, x.station(0, 3));
        due.same("L", 15, x.station(0, 4));
    }

    private static void latestPickComesBack() {
        TriggerNetwork x = withEvent();
        x.setLevel(0, 0);
        x.pass(3);
        x.setLevel(0, 9);
        due.same("a second pick", 1, x.pass(1));
        for (int k = 0; k < 4; k++) {
            x.undo();
        }
        x.setLevel(0, 40);
        x.pass(1);
        due.same("the first one is the latest again", 40, x.pick(0, 2));
    }

    private static void picksAndEventsComeBack() {
        TriggerNetwork x = withEvent();
        x.saveSnapshot(0);
        x.undo();
        x.undo();
        x.pass(4);
        x.setLevel(1, 900);
        x.pass(1);
        due.same("station", 1, x.pick(0, 0));
        due.same("declared", 7, x.event(0, 2));
        x.retract(0);
        x.mute(1);
        due.same("tick", 3, x.restoreSnapshot(0));
        due.same("station", 0, x.pick(0, 0));
        due.same("time", 3, x.pick(0, 1));
        due.same("peak", 5, x.pick(0, 2));
        due.same("event", 0, x.pick(0, 3));
        due.same("removed", 0, x.pick(0, 4));
        due.same("retracted", 0, x.event(0, 0));
        due.same("declared", 3, x.event(0, 2));
        due.same("origin", 3, x.event(0, 4));
    }

    private static void snapshots() {
        TriggerNetwork x = withEvent();
        due.same("no earlier one", false, x.saveSnapshot(1));
        x.pass(7);
        due.same("an earlier one", true, x.saveSnapshot(1));
        x.pass(5);
        due.same("tick", 10, x.restoreSnapshot(1));
        due.same("tick", 10, x.tick());
        due.same("no undo", -1, x.undo());
        x.pass(1);
        due.same("it stays stored", 10, x.restoreSnapshot(1));
        due.same("an earlier one", true, x.saveSnapshot(1));
        x.setLevel(0, 1);
        due.same("one change", 0, x.undo());
        due.noState("the other is empty", () -> x.restoreSnapshot(0));
        due.same("no earlier one there", false, x.saveSnapshot(0));
    }

    private static void snapshotHoldsAll() {
        TriggerNetwork x = withEvent();
        x.saveSnapshot(0);
        x.setLevel(0, 70);
        x.setLevel(1, 80);
        x.pass(1);
        x.mute(0);
        x.retract(0);
        x.saveSnapshot(1);
        due.same("tick", 3, x.restoreSnapshot(0));
        due.same("level", 5, x.station(0, 2));
        due.same("level", 0, x.station(1, 2));
        due.same("S", 5, x.station(0, 3));
        due.same("triggered", 1, x.triggered());
        due.same("muted", 0, x.station(0, 7));
        due.same("picks", 1, x.size(3));
        due.same("peak", 5, x.pick(0, 2));
        due.same("removed", 0, x.pick(0, 4));
        due.same("stands", 1, x.size(5));
        due.same("magnitude", 1, x.event(0, 6));
        due.same("tick", 4, x.restoreSnapshot(1));
        due.same("level", 80, x.station(1, 2));
        due.same("muted", 1, x.station(0, 7));
        due.same("picks", 2, x.size(3));
        due.same("peak", 70, x.pick(0, 2));
        due.same("removed", 1, x.pick(0, 4));
        due.same("stands", 0, x.size(5));
    }

    private static void slots() {
        TriggerNetwork x = withEvent();
        due.noIndex("no slot", () -> x.saveSnapshot(2) ? 1 : 0);
        due.noIndex("no slot", () -> x.saveSnapshot(-1) ? 1 : 0);
        due.noIndex("no slot", () -> x.restoreSnapshot(2));
        due.noIndex("no slot", () -> x.restoreSnapshot(-1));
        due.noState("empty", () -> x.restoreSnapshot(0));
        due.noState("empty", () -> x.restoreSnapshot(1));
        due.same("thrown: undo stays", 2, x.undo());
    }
}
