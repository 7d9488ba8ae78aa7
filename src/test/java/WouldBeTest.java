/** Promises 19 to 21: what would be, and that nothing changes by it. */
public final class WouldBeTest {
    private static final String QUICK = "average 1 2;trigger 150 100;";
    private static final Due due = new Due();

    public static void main(String[] args) {
        ratioAfter();
        ratioAfterMany();
        eventsWithout();
        newEventsWithout();
        ticksToEvent();
        overTheLastTick();
        nothingChanges();
        due.finish();
    }

    private static void ratioAfter() {
        TriggerNetwork x = Net.of("station 0 0;station 1 1;average 2 4;trigger 9999 0;");
        int[] levels = {1, 2, 4, 8};
        for (int level : levels) {
            x.setLevel(0, level);
            x.pass(1);
        }
        due.same("12 * 400 / (15 * 2)", 160, x.ratioAfter(0, 100, 0));
        due.same("24 * 400 / (30 * 2)", 160, x.ratioAfter(0, 16, 1));
        due.same("8 * 400 / (14 * 2)", 114, x.ratioAfter(0, 0, 1));
        due.same("0 of 12", 0, x.ratioAfter(0, 0, 2));
        due.same("6 * 400 / (18 * 2)", 66, x.ratioAfter(0, 3, 2));
        due.same("no L", 0, x.ratioAfter(0, 0, 4));
        due.same("all alike", 100, x.ratioAfter(0, 9999, 4));
        due.same("all alike", 100, x.ratioAfter(0, 1, 200));
        due.same("another one", 200, x.ratioAfter(1, 1, 1));
        due.same("another one", 133, x.ratioAfter(1, 1, 3));
        due.noIndex("no station", () -> x.ratioAfter(2, -1, -1));
        due.noIndex("no station", () -> x.ratioAfter(-1, 0, 0));
        due.noArgument("level", () -> x.ratioAfter(0, -1, 0));
        due.noArgument("level", () -> x.ratioAfter(0, 10000, 0));
        due.noArgument("ticks", () -> x.ratioAfter(0, 0, -1));
        due.noArgument("ticks", () -> x.ratioAfter(0, 0, 201));
        x.mute(1);
        due.same("a muted one", 200, x.ratioAfter(1, 9999, 1));
    }

    private static void ratioAfterMany() {
        TriggerNetwork x = Net.of("station 0 0;average 50 99;trigger 9999 0;");
        x.setLevel(0, 9999);
        x.pass(150);
        due.same("49 * 9999 * 9900 / (98 * 9999 * 50)", 99, x.ratioAfter(0, 0, 1));
        due.same("1 of 50", 3, x.ratioAfter(0, 0, 49));
        due.same("none of 49", 0, x.ratioAfter(0, 0, 50));
        due.same("none of none", 0, x.ratioAfter(0, 0, 99));
        x.setLevel(0, 1);
        x.pass(99);
        due.same("(49 + 9999) * 9900 / (10097 * 50)", 197, x.ratioAfter(0, 9999, 1));
    }

    private static void eventsWithout() {
        TriggerNetwork x = Net.of("station 0 0;station 0 0;station 0 0;" + QUICK + "votes 2;slack 5;");
        x.pass(2);
        x.setLevel(0, 5);
        x.pass(1);
        x.setLevel(1, 5);
        x.pass(1);
        due.same("one is retracted", 0, x.eventsWithout(0, 0));
        due.same("one stands", 1, x.eventsWithout(2, 0));
        x.setLevel(2, 5);
        due.same("but a new one follows", 1, x.eventsWithout(0, 1));
        due.same("nothing is changed", 2, x.size(3));
        due.noIndex("no station", () -> x.eventsWithout(3, -1));
        due.noIndex("no station", () -> x.eventsWithout(-1, 0));
        due.noArgument("ticks", () -> x.eventsWithout(0, -1));
        due.noArgument("ticks", () -> x.eventsWithout(0, 201));
        x.mute(2);
        due.noIndex("no station is told first", () -> x.eventsWithout(3, 201));
        due.noArgument("ticks are told second", () -> x.eventsWithout(2, 201));
        due.noState("muted", () -> x.eventsWithout(2, 200));
    }

    private static void newEventsWithout() {
        TriggerNetwork x = Net.of("station 0 0;station 500 0;average 1 4;trigger 100 0;votes 1;slack 0;speed 999;");
        x.setLevel(0, 5);
        x.setLevel(1, 5);
        due.same("none ready", 0, x.eventsWithout(0, 3));
        due.same("the other one in tick 4", 1, x.eventsWithout(0, 4));
        due.same("not more later", 1, x.eventsWithout(0, 200));
    }

    private static void ticksToEvent() {
        TriggerNetwork x = Net.of("station 0 0;average 1 99;trigger 100 100;votes 1;");
        due.same("quiet", -1, x.ticksToEvent());
        x.setLevel(0, 5);
        due.same("ready in tick 99", 99, x.ticksToEvent());
        x.pass(98);
        due.same("in the next", 1, x.ticksToEvent());
        x.pass(1);
        due.same("it is there", 1, x.size(4));
        due.same("triggered for long", -1, x.ticksToEvent());
        TriggerNetwork y = Net.of("station 0 0;average 1 2;trigger 200 150;votes 1;");
        y.setLevel(0, 5);
        due.same("a constant level gives 100 in tick 2", -1, y.ticksToEvent());
        TriggerNetwork z = Net.of("station 0 0;station 0 0;average 1 2;trigger 150 100;votes 2;slack 1;");
        z.pass(2);
        z.setLevel(0, 5);
        due.same("a pick alone is none", -1, z.ticksToEvent());
        z.pass(1);
        z.setLevel(1, 5);
        due.same("now two", 1, z.ticksToEvent());
        z.pass(1);
        z.setLevel(1, 9);
        due.same("one that joins is no new event", -1, z.ticksToEvent());
        TriggerNetwork w = Net.of("station 0 0;station 0 0;average 1 99;trigger 100 100;votes 2;slack 9;");
        w.setLevel(0, 5);
        w.mute(1);
        w.setLevel(1, 5);
        due.same("a muted one makes none", -1, w.ticksToEvent());
        w.unmute(1);
        due.same("both", 99, w.ticksToEvent());
    }

    private static void overTheLastTick() {
        TriggerNetwork x = Net.of("station 0 0;average 1 2;trigger 150 100;votes 1;");
        for (int k = 0; k < 49; k++) {
            x.pass(200);
        }
        x.pass(199);
        due.same("the last tick", 9999, x.tick());
        x.setLevel(0, 5);
        due.same("the tick may exceed it", 1, x.ticksToEvent());
        due.same("here too", 0, x.eventsWithout(0, 200));
        due.same("and here", 200, x.ratioAfter(0, 5, 1));
        due.noState("but not here", () -> x.pass(1));
        due.same("tick", 9999, x.tick());
        due.same("picks", 0, x.size(3));
    }

    private static void nothingChanges() {
        TriggerNetwork x = Net.of("station 0 0;station 0 0;" + QUICK + "votes 1;slack 9;");
        x.pass(2);
        x.setLevel(0, 5);
        x.pass(1);
        x.setLevel(1, 5);
        int before = state(x);
        x.ratioAfter(0, 9, 20);
        x.eventsWithout(0, 20);
        x.eventsWithout(1, 20);
        x.ticksToEvent();
        due.same("state", before, state(x));
        due.same("undo", 3, x.undo());
    }

    private static int state(TriggerNetwork x) {
        int state = x.tick();
        for (int what = 2; what <= 7; what++) {
            state = state * 31 + x.station(0, what) * 7 + x.station(1, what);
        }
        for (int what = 0; what <= 5; what++) {
            state = state * 31 + x.size(what);
        }
        for (int what = 0; what <= 4; what++) {
            state = state * 31 + x.pick(0, what);
        }
        return state * 31 + x.event(0, 1);
    }
}
