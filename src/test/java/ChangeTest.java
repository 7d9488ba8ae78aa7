/** Promises 22 to 26: the changes. */
public final class ChangeTest {
    private static final String QUICK = "average 1 2;trigger 150 100;";
    private static final Due due = new Due();

    public static void main(String[] args) {
        setLevel();
        pass();
        lastTick();
        mute();
        mutePicksOfMany();
        unmute();
        retract();
        throwsChangeNothing();
        due.finish();
    }

    private static void setLevel() {
        TriggerNetwork x = Net.of("station 0 0;station 0 0;");
        due.same("before", 0, x.setLevel(1, 9999));
        due.same("before", 9999, x.setLevel(1, 0));
        due.same("before", 0, x.setLevel(1, 7));
        due.same("level", 7, x.station(1, 2));
        due.same("the other", 0, x.station(0, 2));
        due.same("no sample by it", 0, x.station(1, 4));
        due.noIndex("no station", () -> x.setLevel(2, 10000));
        due.noIndex("no station", () -> x.setLevel(-1, 0));
        due.noArgument("level", () -> x.setLevel(1, 10000));
        due.noArgument("level", () -> x.setLevel(1, -1));
        due.same("level", 7, x.station(1, 2));
    }

    private static void pass() {
        TriggerNetwork x = Net.of("station 0 0;station 0 0;average 1 2;trigger 150 100;votes 8;");
        due.same("no picks", 0, x.pass(2));
        x.setLevel(0, 5);
        x.setLevel(1, 5);
        due.same("two picks", 2, x.pass(200));
        due.same("tick", 202, x.tick());
        due.noArgument("ticks", () -> x.pass(0));
        due.noArgument("ticks", () -> x.pass(201));
        due.noArgument("ticks", () -> x.pass(-1));
        due.noArgument("ticks", () -> x.pass(Integer.MAX_VALUE));
        due.same("tick", 202, x.tick());
        due.same("time", 3, x.pick(1, 1));
    }

    private static void lastTick() {
        TriggerNetwork x = new TriggerNetwork();
        for (int k = 0; k < 49; k++) {
            x.pass(200);
        }
        due.noState("9800 and 200", () -> x.pass(200));
        due.noArgument("ticks are told first", () -> x.pass(201));
        x.pass(198);
        due.noState("9998 and 2", () -> x.pass(2));
        due.same("9999", 0, x.pass(1));
        due.same("tick", 9999, x.tick());
        due.noState("10000", () -> x.pass(1));
        due.noArgument("ticks are told first", () -> x.pass(0));
    }

    private static void mute() {
        TriggerNetwork x = Net.of("station 0 0;station 0 0;station 0 0;" + QUICK + "votes 2;slack 9;");
        x.pass(2);
        for (int station = 0; station < 3; station++) {
            x.setLevel(station, 5);
            x.pass(1);
        }
        due.same("picks of the event", 3, x.event(0, 1));
        due.same("triggered", 3, x.triggered());
        due.same("two votes are left", 0, x.mute(1));
        due.same("triggered no more", 0, x.station(1, 6));
        due.same("triggered", 2, x.triggered());
        due.same("muted", 1, x.station(1, 7));
        due.same("picks of the event", 2, x.event(0, 1));
        due.same("removed", 1, x.pick(1, 4));
        due.noState("muted", () -> x.mute(1));
        due.same("one vote is left", 1, x.mute(0));
        due.same("retracted", 1, x.event(0, 0));
        due.same("of none", -1, x.pick(2, 3));
        due.same("not removed", 0, x.pick(2, 4));
        due.noIndex("no station", () -> x.mute(3));
        due.noIndex("no station", () -> x.mute(-1));
        x.setLevel(1, 500);
        due.same("it makes no picks", 0, x.pass(3));
        due.same("nor is it triggered", 0, x.station(1, 6));
        due.same("it has samples", 500, x.station(1, 3));
        due.same("the peak stays", 5, x.pick(1, 2));
    }

    /** Each event of votes 1 loses its only pick. */
    private static void mutePicksOfMany() {
        TriggerNetwork x = Net.of("station 0 0;station 500 0;average 1 2;trigger 150 150;votes 1;slack 0;speed 999;");
        x.pass(2);
        for (int k = 0; k < 3; k++) {
            x.setLevel(0, 5);
            x.pass(1);
            x.setLevel(0, 0);
            x.pass(20);
        }
        x.setLevel(1, 5);
        x.pass(1);
        due.same("events", 4, x.size(5));
        x.retract(1);
        due.same("a retracted one is not retracted again", 2, x.mute(0));
        due.same("events", 1, x.size(5));
        due.same("the other one stands", 0, x.event(3, 0));
        for (int pick = 0; pick < 3; pick++) {
            due.same("removed", 1, x.pick(pick, 4));
        }
    }

    private static void unmute() {
        TriggerNetwork x = Net.of("station 0 0;average 1 2;trigger 150 100;votes 1;");
        x.pass(2);
        x.setLevel(0, 5);
        x.pass(1);
        due.noState("not muted", () -> x.unmute(0));
        x.mute(0);
        due.same("ratio", 200, x.unmute(0));
        due.same("not muted", 0, x.station(0, 7));
        due.same("not triggered", 0, x.triggered());
        due.same("its pick stays removed", 1, x.pick(0, 4));
        due.same("ratio 100 is not on", 0, x.pass(1));
        due.noState("not muted", () -> x.unmute(0));
        due.noIndex("no station", () -> x.unmute(1));
        due.noIndex("no station", () -> x.unmute(-1));
        x.mute(0);
        x.setLevel(0, 100);
        x.pass(1);
        due.same("ratio", 190, x.unmute(0));
        x.setLevel(0, 1000);
        due.same("it makes picks again", 1, x.pass(1));
        due.same("and an event", 0, x.event(1, 0));
    }

    private static void retract() {
        TriggerNetwork x = Net.of("station 0 0;station 0 0;" + QUICK + "votes 2;slack 9;");
        x.pass(2);
        x.setLevel(0, 5);
        x.setLevel(1, 5);
        x.pass(1);
        due.same("picks", 2, x.retract(0));
        due.same("retracted", 1, x.event(0, 0));
        due.same("of none", -1, x.pick(0, 3));
        due.same("not removed", 0, x.pick(0, 4));
        due.same("they still fit", true, x.fits(0, 1));
        due.noState("retracted", () -> x.retract(0));
        due.noIndex("no event", () -> x.retract(1));
        due.noIndex("no event", () -> x.retract(-1));
        due.same("the stations stay triggered", 2, x.triggered());
        due.same("no vote by it", 0, x.pass(5));
        due.same("events", 1, x.size(4));
    }

    private static void throwsChangeNothing() {
        TriggerNetwork x = Net.of("station 0 0;" + QUICK + "votes 1;");
        x.pass(2);
        x.setLevel(0, 5);
        x.pass(1);
        x.retract(0);
        due.noState("retracted", () -> x.retract(0));
        due.noState("not muted", () -> x.unmute(0));
        due.noArgument("level", () -> x.setLevel(0, -1));
        due.noArgument("ticks", () -> x.pass(0));
        due.noIndex("no station", () -> x.mute(1));
        due.same("four changes only", 3, x.undo());
        due.same("the retraction is undone", 0, x.event(0, 0));
    }
}
