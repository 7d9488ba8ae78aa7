/** Promises 12 to 16: picks, their votes, and the place, origin, misfit and magnitude of events. */
public final class EventTest {
    private static final String QUICK = "average 1 2;trigger 150 100;";
    private static final Due due = new Due();

    public static void main(String[] args) {
        picks();
        peaks();
        sixtyPicks();
        fits();
        fitsNoMore();
        joins();
        joinsLowest();
        groups();
        groupIsGreedy();
        groupTakesFreePicksOnly();
        twentyEvents();
        eventPicks();
        negativeOrigin();
        lowestNode();
        smallestMisfit();
        magnitudes();
        magnitudeOverDistance();
        retractedEvent();
        wrongArguments();
        due.finish();
    }

    /** Sets a level and lets a tick pass: a pick, if the station was quiet. */
    private static int shake(TriggerNetwork x, int station, int level) {
        x.setLevel(station, level);
        return x.pass(1);
    }

    private static void picks() {
        TriggerNetwork x = Net.of("station 0 0;station 500 0;" + QUICK + "votes 2;speed 100;slack 0;");
        x.pass(2);
        shake(x, 1, 5);
        due.same("station", 1, x.pick(0, 0));
        due.same("time", 3, x.pick(0, 1));
        due.same("peak", 5, x.pick(0, 2));
        due.same("event", -1, x.pick(0, 3));
        due.same("removed", 0, x.pick(0, 4));
        shake(x, 0, 9);
        due.same("station", 0, x.pick(1, 0));
        due.same("time", 4, x.pick(1, 1));
        due.same("peak", 9, x.pick(1, 2));
        due.same("event", 0, x.pick(1, 3));
        due.same("event", 0, x.pick(0, 3));
        x.mute(0);
        due.same("removed", 1, x.pick(1, 4));
        due.same("of no event", -1, x.pick(1, 3));
        due.same("nor the other", -1, x.pick(0, 3));
        due.same("not removed", 0, x.pick(0, 4));
        due.same("the peak stays", 9, x.pick(1, 2));
        x.unmute(0);
        due.same("removed for good", 1, x.pick(1, 4));
    }

    private static void peaks() {
        TriggerNetwork x = Net.of("station 0 0;" + QUICK + "votes 1;");
        x.pass(2);
        shake(x, 0, 10);
        due.same("peak", 10, x.pick(0, 2));
        shake(x, 0, 30);
        due.same("higher", 30, x.pick(0, 2));
        shake(x, 0, 31);
        due.same("higher", 31, x.pick(0, 2));
        x.retract(0);
        shake(x, 0, 40);
        due.same("without an event too", 40, x.pick(0, 2));
        shake(x, 0, 39);
        due.same("lower", 40, x.pick(0, 2));
        due.same("98 is below off", 0, x.triggered());
        due.same("off: no pick before the ratio is on", 0, shake(x, 0, 100));
        due.same("143 only", 143, x.station(0, 5));
        due.same("not triggered: no peak", 40, x.pick(0, 2));
        shake(x, 0, 1);
        due.same("a second pick", 1, shake(x, 0, 50));
        due.same("the first stays", 40, x.pick(0, 2));
        shake(x, 0, 60);
        due.same("the latest", 60, x.pick(1, 2));
        due.same("the first stays", 40, x.pick(0, 2));
        TriggerNetwork y = Net.of("station 0 0;average 1 2;trigger 150 150;votes 8;");
        y.pass(2);
        shake(y, 0, 10);
        due.same("triggered", 1, y.triggered());
        shake(y, 0, 20);
        due.same("133 ends it", 0, y.triggered());
        due.same("the sample of the tick that ends it counts", 20, y.pick(0, 2));
        shake(y, 0, 30);
        due.same("a later one does not", 20, y.pick(0, 2));
    }

    private static void sixtyPicks() {
        TriggerNetwork x = Net.of("station 0 0;station 0 0;station 0 0;station 0 0;station 0 0;station 0 0;station 0 0;"
                + "average 1 2;trigger 150 150;votes 8;");
        x.pass(2);
        for (int k = 0; k < 9; k++) {
            due.same("picks", k * 7, x.size(3));
            for (int station = 0; station < 7; station++) {
                x.setLevel(station, 5);
            }
            due.same("new picks", k < 8 ? 7 : 4, x.pass(1));
            for (int station = 0; station < 7; station++) {
                x.setLevel(station, 0);
            }
            x.pass(2);
        }
        due.same("picks", 60, x.size(3));
        due.same("the last one's station", 3, x.pick(59, 0));
        x.mute(0);
        x.setLevel(6, 5);
        due.same("removed ones count too", 0, x.pass(1));
        due.same("nor is it triggered", 0, x.triggered());
        due.noIndex("no pick", () -> x.pick(60, 0));
    }

    private static void fits() {
        TriggerNetwork x = Net.of("station 0 0;station 60 0;" + QUICK + "votes 8;");
        x.pass(2);
        shake(x, 0, 5);
        x.setLevel(0, 0);
        x.pass(10);
        shake(x, 0, 5);
        shake(x, 1, 5);
        x.setLevel(1, 0);
        x.pass(9);
        shake(x, 1, 5);
        int[] times = {3, 14, 15, 25};
        for (int pick = 0; pick < 4; pick++) {
            due.same("time", times[pick], x.pick(pick, 1));
        }
        due.same("12 apart, travel 10 and slack 2", true, x.fits(0, 2));
        due.same("the other way", true, x.fits(2, 0));
        due.same("22 apart", false, x.fits(0, 3));
        due.same("1 apart", true, x.fits(1, 2));
        due.same("11 apart", true, x.fits(3, 1));
        due.same("of one station", false, x.fits(0, 1));
        due.same("itself", false, x.fits(2, 2));
        due.noIndex("no first", () -> x.fits(4, 0) ? 1 : 0);
        due.noIndex("no second", () -> x.fits(0, 4) ? 1 : 0);
        due.noIndex("negative", () -> x.fits(-1, 0) ? 1 : 0);
        due.noIndex("negative", () -> x.fits(0, -1) ? 1 : 0);
        x.mute(1);
        due.same("removed", false, x.fits(0, 2));
        due.same("removed", false, x.fits(2, 0));
        x.unmute(1);
        due.same("removed for good", false, x.fits(0, 2));
    }

    private static void fitsNoMore() {
        TriggerNetwork x = Net.of("station 0 0;station 60 0;" + QUICK + "votes 2;");
        x.pass(2);
        shake(x, 0, 5);
        x.pass(12);
        shake(x, 1, 5);
        due.same("13 apart", false, x.fits(0, 1));
        due.same("no event", 0, x.size(4));
    }

    private static void joins() {
        TriggerNetwork x = Net.of("station 0 0;station 30 0;station 60 0;" + QUICK + "votes 2;slack 0;speed 100;");
        x.pass(2);
        shake(x, 0, 5);
        shake(x, 2, 5);
        due.same("declared", 4, x.event(0, 2));
        x.pass(2);
        due.same("4 apart of 3: it does not join", 1, shake(x, 1, 5));
        due.same("not all picks fit", false, x.fits(0, 2));
        due.same("one does", true, x.fits(1, 2));
        due.same("of no event", -1, x.pick(2, 3));
        due.same("picks", 2, x.event(0, 1));
        for (int k = 0; k < 3; k++) {
            x.undo();
        }
        x.pass(1);
        due.same("3 apart: it joins", 1, shake(x, 1, 5));
        due.same("event", 0, x.pick(2, 3));
        due.same("picks", 3, x.event(0, 1));
        due.same("declared then still", 4, x.event(0, 2));
        due.same("its first pick", 0, x.eventPick(0, 0));
        due.same("its last pick", 2, x.eventPick(0, 2));
    }

    private static void joinsLowest() {
        TriggerNetwork x = Net.of("station 0 0;station 0 0;station 0 0;" + QUICK + "votes 1;slack 9;");
        x.pass(2);
        shake(x, 0, 5);
        x.setLevel(0, 0);
        x.pass(2);
        shake(x, 0, 5);
        due.same("events", 2, x.size(4));
        shake(x, 1, 5);
        due.same("the lowest", 0, x.pick(2, 3));
        x.retract(0);
        due.same("of none", -1, x.pick(2, 3));
        shake(x, 2, 5);
        due.same("the lowest that stands", 1, x.pick(3, 3));
        due.same("events", 2, x.size(4));
    }

    private static void groups() {
        TriggerNetwork x = Net.of("station 0 0;station 0 0;station 0 0;" + QUICK + "votes 3;slack 9;");
        x.pass(2);
        shake(x, 2, 5);
        due.same("one is too few", 0, x.size(4));
        shake(x, 0, 5);
        due.same("two are too few", 0, x.size(4));
        due.same("of none", -1, x.pick(0, 3));
        shake(x, 1, 5);
        due.same("three do", 1, x.size(4));
        due.same("declared in this tick", 5, x.event(0, 2));
        for (int pick = 0; pick < 3; pick++) {
            due.same("event", 0, x.pick(pick, 3));
        }
        TriggerNetwork y = Net.of("station 0 0;station 0 0;" + QUICK + "votes 2;slack 0;");
        y.pass(2);
        y.setLevel(0, 5);
        y.setLevel(1, 5);
        due.same("two picks in one tick", 2, y.pass(1));
        due.same("vote at once", 1, y.size(4));
        TriggerNetwork z = Net.of("station 0 0;" + QUICK + "votes 1;");
        z.pass(2);
        shake(z, 0, 5);
        due.same("a group of one", 1, z.size(5));
        due.same("its origin", 3, z.event(0, 4));
        due.same("its misfit", 0, z.event(0, 5));
        due.same("the misfit of any node", 0, z.misfit(24, 0));
    }

    /** Picks 0 and 1 do not fit to each other; the new one fits to both, and takes pick 0. */
    private static void groupIsGreedy() {
        TriggerNetwork x = Net.of("station 0 0;station 0 0;station 100 0;station 100 0;" + QUICK
                + "votes 3;slack 0;speed 100;");
        x.pass(2);
        shake(x, 0, 5);
        shake(x, 1, 5);
        shake(x, 2, 5);
        due.same("0 and 1 do not fit", false, x.fits(0, 1));
        due.same("too few", 0, x.size(4));
        shake(x, 3, 5);
        due.same("2 and 3 do not fit", false, x.fits(2, 3));
        due.same("3 fits to 0", true, x.fits(3, 0));
        due.same("3 fits to 1", true, x.fits(3, 1));
        due.same("3 and 0 are too few", 0, x.size(4));
        TriggerNetwork y = Net.of("station 0 0;station 0 0;station 100 0;" + QUICK + "votes 2;slack 0;speed 100;");
        y.pass(2);
        shake(y, 0, 5);
        shake(y, 1, 5);
        shake(y, 2, 5);
        due.same("the first one is taken", 0, y.pick(0, 3));
        due.same("the second is not", -1, y.pick(1, 3));
        due.same("the new one", 0, y.pick(2, 3));
        due.same("picks", 2, y.event(0, 1));
    }

    private static void groupTakesFreePicksOnly() {
        TriggerNetwork x = Net.of("station 0 0;station 0 0;station 100 0;station 200 0;" + QUICK
                + "votes 2;slack 0;speed 100;");
        x.pass(2);
        x.setLevel(0, 5);
        x.setLevel(1, 5);
        x.pass(1);
        due.same("the first event", 2, x.event(0, 1));
        x.setLevel(0, 0);
        x.setLevel(1, 0);
        x.pass(10);
        shake(x, 0, 5);
        due.same("the second fits to none", -1, x.pick(2, 3));
        x.mute(0);
        due.same("the first is retracted", 1, x.event(0, 0));
        shake(x, 2, 5);
        due.same("it fits to removed ones no more", -1, x.pick(3, 3));
        due.same("events", 1, x.size(4));
        due.same("12 apart", false, x.fits(1, 3));
        shake(x, 3, 5);
        due.same("a new event", 2, x.size(4));
        due.same("with 1, which the retraction has set free", 1, x.pick(1, 3));
        due.same("without 3, which fits to 4 alone", -1, x.pick(3, 3));
        due.same("and 4", 1, x.pick(4, 3));
        due.same("picks", 2, x.event(1, 1));
    }

    private static void twentyEvents() {
        TriggerNetwork x = Net.of("station 0 0;average 1 2;trigger 150 150;votes 1;");
        x.pass(2);
        for (int k = 0; k < 22; k++) {
            due.same("events", Math.min(k, 20), x.size(4));
            due.same("a pick", 1, shake(x, 0, 5));
            x.setLevel(0, 0);
            x.pass(2);
        }
        due.same("events", 20, x.size(4));
        due.same("the last one's event", 19, x.pick(19, 3));
        due.same("nothing comes of it", -1, x.pick(20, 3));
        x.retract(0);
        shake(x, 0, 5);
        due.same("retracted ones count too", -1, x.pick(22, 3));
        due.same("events that stand", 19, x.size(5));
        due.same("declared in 3 + 19 * 3", 60, x.event(19, 2));
    }

    private static void eventPicks() {
        TriggerNetwork x = Net.of("station 0 0;station 0 0;station 0 0;" + QUICK + "votes 2;slack 3;");
        x.pass(2);
        shake(x, 2, 5);
        x.setLevel(2, 0);
        x.pass(4);
        shake(x, 2, 5);
        shake(x, 1, 5);
        shake(x, 0, 5);
        due.same("picks", 3, x.event(0, 1));
        due.same("first", 1, x.eventPick(0, 0));
        due.same("second", 2, x.eventPick(0, 1));
        due.same("third", 3, x.eventPick(0, 2));
        due.same("no fourth", -1, x.eventPick(0, 3));
        due.same("negative", -1, x.eventPick(0, -1));
        due.same("far", -1, x.eventPick(0, Integer.MAX_VALUE));
        x.mute(1);
        due.same("second", 3, x.eventPick(0, 1));
        due.same("no third", -1, x.eventPick(0, 2));
        x.retract(0);
        due.same("no first", -1, x.eventPick(0, 0));
        due.noIndex("no event", () -> x.eventPick(1, 0));
        due.noIndex("no event", () -> x.eventPick(-1, -1));
    }

    /** Delays 3 and -9986 at node 0, -987 and -8996 at node 1: sums of -9983, and / truncates toward 0. */
    private static void negativeOrigin() {
        TriggerNetwork x = Net.of("station 0 0;station 999 0;" + QUICK + "votes 2;speed 1;grid 0 0 2 1 99;");
        x.pass(2);
        shake(x, 0, 5);
        shake(x, 1, 5);
        due.same("misfit of node 0", 9989, x.misfit(0, 0));
        due.same("misfit of node 1", 8009, x.misfit(1, 0));
        due.same("node", 1, x.event(0, 3));
        due.same("origin", -4991, x.event(0, 4));
        due.same("misfit", 8009, x.event(0, 5));
    }

    private static void lowestNode() {
        TriggerNetwork x = Net.of("station 0 50;station 60 50;" + QUICK + "votes 2;speed 10;grid 30 1 1 2 98;slack 0;");
        x.pass(2);
        shake(x, 0, 5);
        shake(x, 1, 5);
        due.same("delays 3 - 57 and 4 - 57", 1, x.misfit(0, 0));
        due.same("the same", 1, x.misfit(1, 0));
        due.same("the lowest", 0, x.event(0, 3));
        due.same("-107 / 2", -53, x.event(0, 4));
        due.same("description", "event 0 at 30,1 with 2 votes", Net.described(x, 0));
    }

    private static void smallestMisfit() {
        TriggerNetwork x = Net.of("station 0 0;station 60 0;station 0 80;" + QUICK
                + "votes 3;speed 10;grid 0 0 4 5 20;slack 0;");
        x.pass(20);
        // A shock at 40,60 in tick 0 is at hand after 72, 63 and 44 ticks; here it starts in tick 20.
        x.pass(43);
        shake(x, 2, 5);
        x.pass(18);
        shake(x, 1, 5);
        x.pass(8);
        shake(x, 0, 5);
        due.same("events", 1, x.size(4));
        due.same("node 3 * 4 + 2", 14, x.event(0, 3));
        due.same("origin", 20, x.event(0, 4));
        due.same("misfit", 0, x.event(0, 5));
        due.same("at 0,0: delays 92, 23 and -16", 118, x.misfit(0, 0));
        due.same("description", "event 0 at 40,60 with 3 votes", Net.described(x, 0));
        x.mute(1);
        due.same("too few", 1, x.event(0, 0));
        x.undo();
        due.noIndex("no node", () -> x.misfit(20, 0));
        due.noIndex("no node", () -> x.misfit(-1, 0));
        due.noIndex("no event", () -> x.misfit(0, 1));
        due.noIndex("no event", () -> x.misfit(0, -1));
        x.retract(0);
        due.noState("retracted", () -> x.misfit(0, 0));
        due.noIndex("no node is told first", () -> x.misfit(20, 0));
    }

    private static void magnitudes() {
        TriggerNetwork x = Net.of("station 0 0;station 0 0;station 0 0;station 0 0;" + QUICK
                + "votes 1;rung 10 5;rung 100 20;");
        x.pass(2);
        shake(x, 0, 100);
        due.same("20", 20, x.event(0, 6));
        shake(x, 1, 9);
        due.same("NONE and 20", -1, x.event(0, 6));
        shake(x, 2, 99);
        due.same("NONE, 5 and 20", 5, x.event(0, 6));
        shake(x, 3, 1000);
        due.same("NONE, 5, 20 and 20", 5, x.event(0, 6));
        x.setLevel(1, 150);
        x.pass(1);
        due.same("5, 20, 20 and 20", 20, x.event(0, 6));
        due.same("no rungs", -1, firstMagnitude("", 9999));
        due.same("a rung at 0", 0, firstMagnitude("rung 0 0;", 1));
    }

    private static int firstMagnitude(String rungs, int level) {
        TriggerNetwork x = Net.of("station 0 0;" + QUICK + "votes 1;" + rungs);
        x.pass(2);
        shake(x, 0, level);
        return x.event(0, 6);
    }

    private static void magnitudeOverDistance() {
        String place = "station 30 40;" + QUICK + "votes 1;grid 0 0 1 1 1;rung 60 1;rung 160 2;rung 9999 3;";
        int[][] want = {{-1, 9}, {1, 10}};
        for (int[] row : want) {
            TriggerNetwork x = Net.of(place);
            x.pass(2);
            shake(x, 0, row[1]);
            due.same("decay 1 over 50", row[0], x.event(0, 6));
        }
        TriggerNetwork y = Net.of(place + "decay 3;");
        y.pass(2);
        shake(y, 0, 9);
        due.same("159", 1, y.event(0, 6));
        shake(y, 0, 10);
        due.same("160", 2, y.event(0, 6));
        shake(y, 0, 9999);
        due.same("more than any level", 3, y.event(0, 6));
        TriggerNetwork z = Net.of(place + "decay 0;");
        z.pass(2);
        shake(z, 0, 59);
        due.same("59", -1, z.event(0, 6));
    }

    private static void retractedEvent() {
        TriggerNetwork x = Net.of("station 0 0;station 0 0;" + QUICK + "votes 1;rung 0 1;");
        x.pass(2);
        shake(x, 0, 5);
        due.same("stands", 0, x.event(0, 0));
        x.retract(0);
        int[] want = {1, 0, 3, -1, -1, -1, -1};
        for (int what = 0; what <= 6; what++) {
            due.same("retracted: " + what, want[what], x.event(0, what));
        }
        shake(x, 1, 5);
        due.same("its pick is free", 1, x.pick(0, 3));
        due.same("two picks", 2, x.event(1, 1));
        due.same("it stays retracted", 0, x.event(0, 1));
    }

    private static void wrongArguments() {
        TriggerNetwork x = Net.of("station 0 0;" + QUICK + "votes 1;");
        due.noIndex("no pick", () -> x.pick(0, 0));
        due.noIndex("no event", () -> x.event(0, 0));
        x.pass(2);
        shake(x, 0, 5);
        due.noIndex("no pick", () -> x.pick(1, 0));
        due.noIndex("no pick is told first", () -> x.pick(-1, 5));
        due.noArgument("no property", () -> x.pick(0, 5));
        due.noArgument("no property", () -> x.pick(0, -1));
        due.noIndex("no event", () -> x.event(1, 0));
        due.noIndex("no event is told first", () -> x.event(-1, 7));
        due.noArgument("no property", () -> x.event(0, 7));
        due.noArgument("no property", () -> x.event(0, -1));
        x.retract(0);
        due.noArgument("of a retracted one too", () -> x.event(0, 7));
    }
}
