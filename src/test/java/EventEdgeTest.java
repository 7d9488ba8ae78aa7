/**
 * Promises 12 to 16: a test for each sentence of the document that names a boundary case. The votes,
 * the location and the magnitudes show in promise 14.
 */
public final class EventEdgeTest {
    private static final int LEAST = Integer.MIN_VALUE;
    private static final int GREATEST = Integer.MAX_VALUE;
    /** A station that was silent triggers at its first sample, and is off again when it is silent. */
    private static final String QUICK = "average 1 2;trigger 150 100;";
    private static final Due due = new Due();

    public static void main(String[] args) {
        due.runPromises(EventEdgeTest.class);
    }

    /** A network that is ready. */
    private static TriggerNetwork ready(String text) {
        TriggerNetwork x = Net.of(QUICK + text);
        x.pass(2);
        return x;
    }

    private static TriggerNetwork oneEvent() {
        TriggerNetwork x = ready("station 0 0;station 0 0;votes 1;rung 0 5;");
        Net.shake(x, 0, 5);
        return x;
    }

    // ---- pick

    /** "Throws IndexOutOfBoundsException if there is no such pick (checked first)" */
    static void promise12NoSuchPick() {
        TriggerNetwork x = ready("station 0 0;station 0 0;");
        due.noIndex("none at all", () -> x.pick(0, 0));
        due.noIndex("checked first", () -> x.pick(0, 5));
        Net.shake(x, 0, 5);
        Net.shake(x, 1, 5);
        for (int wrong : new int[] {-1, 2, 60, LEAST, GREATEST}) {
            due.noIndex("no pick", () -> x.pick(wrong, 0));
            due.noIndex("checked first", () -> x.pick(wrong, -1));
            due.noIndex("checked first", () -> x.pick(wrong, 5));
        }
        due.same("the last one is there", 1, x.pick(1, 0));
    }

    /** "Throws IllegalArgumentException if what is out of range" */
    static void promise12WhatOutOfRange() {
        TriggerNetwork x = ready("station 0 0;station 0 0;");
        Net.shake(x, 1, 5);
        for (int wrong : new int[] {-1, 5, LEAST, GREATEST}) {
            due.noArgument("no such property", () -> x.pick(0, wrong));
        }
        due.same("the lowest", 1, x.pick(0, 0));
        due.same("the highest", 0, x.pick(0, 4));
        x.mute(1);
        due.noArgument("of a removed one too", () -> x.pick(0, 5));
    }

    /** "3 its event (NONE if it is of none)" */
    static void promise12OfNoEvent() {
        TriggerNetwork x = ready("station 0 0;station 0 0;station 0 0;votes 2;slack 9;");
        Net.shake(x, 2, 5);
        due.same("alone", -1, x.pick(0, 3));
        Net.shake(x, 1, 5);
        due.same("of event 0", 0, x.pick(0, 3));
        due.same("of event 0", 0, x.pick(1, 3));
        x.retract(0);
        due.same("of none then", -1, x.pick(0, 3));
        due.same("of none then", -1, x.pick(1, 3));
    }

    /** "4 whether it is removed (1 or 0)": its other properties stay, but it is of no event. */
    static void promise12RemovedPick() {
        TriggerNetwork x = ready("station 0 0;station 0 0;votes 1;slack 0;");
        Net.shake(x, 1, 5);
        due.same("not removed", 0, x.pick(0, 4));
        x.mute(1);
        int[] want = {1, 3, 5, -1, 1};
        for (int what = 0; what <= 4; what++) {
            due.same("property " + what, want[what], x.pick(0, what));
        }
        x.unmute(1);
        due.same("for good", 1, x.pick(0, 4));
    }

    /** "the peak of its latest pick becomes the greater one of itself and the sample" */
    static void promise12PeakIsTheGreaterOne() {
        TriggerNetwork x = Net.of("station 0 0;average 1 2;trigger 150 0;");
        x.pass(2);
        int[] samples = {10, 10, 9, 11, 0, 9999, 9998};
        int[] peaks = {10, 10, 10, 11, 11, 9999, 9999};
        for (int k = 0; k < samples.length; k++) {
            Net.shake(x, 0, samples[k]);
            due.same("peak", peaks[k], x.pick(0, 2));
        }
    }

    /** The sample of the tick in which the station goes off counts, a later one does not. */
    static void promise12PeakOfTheTickThatEndsTheTrigger() {
        TriggerNetwork x = Net.of("station 0 0;average 1 2;trigger 150 140;");
        x.pass(2);
        Net.shake(x, 0, 10);
        Net.shake(x, 0, 20);
        due.same("133 is below off", 0, x.triggered());
        due.same("its sample counts", 20, x.pick(0, 2));
        Net.shake(x, 0, 40);
        due.same("133 is below on", 0, x.triggered());
        due.same("its sample does not", 20, x.pick(0, 2));
    }

    /** "the peak of its latest pick" */
    static void promise12PeakOfTheLatestPickOnly() {
        TriggerNetwork x = ready("station 0 0;station 0 0;slack 0;");
        Net.shake(x, 0, 10);
        Net.shake(x, 0, 0);
        x.pass(1);
        Net.shake(x, 0, 20);
        Net.shake(x, 1, 7);
        Net.shake(x, 0, 30);
        due.same("the earlier one", 10, x.pick(0, 2));
        due.same("the latest", 30, x.pick(1, 2));
        due.same("the other station's", 7, x.pick(2, 2));
    }

    /** A sample of 0 can be a peak: S of more than one sample keeps the ratio high. */
    static void promise12PeakOfZero() {
        TriggerNetwork x = Net.of("station 0 0;average 2 3;trigger 150 100;votes 1;decay 0;rung 0 3;rung 1 4;");
        x.pass(1);
        Net.shake(x, 0, 9);
        due.same("ready in the third tick", 1, Net.shake(x, 0, 0));
        due.same("peak", 0, x.pick(0, 2));
        due.same("amplitude 0", 3, x.event(0, 6));
    }

    // ---- fits

    /** "the absolute difference of their times is at most the travel time between the stations plus slack" */
    static void promise13JustFits() {
        String text = "station 0 0;station 66 0;slack 3;";
        int[][] rows = {{0, 1}, {1, 1}, {13, 1}, {14, 1}, {15, 0}, {16, 0}};
        for (int[] row : rows) {
            for (int first = 0; first < 2; first++) {
                TriggerNetwork x = ready(text);
                x.setLevel(first, 5);
                if (row[0] > 0) {
                    x.pass(row[0]);
                }
                Net.shake(x, 1 - first, 5);
                due.same(row[0] + " apart", row[0], x.pick(1, 1) - x.pick(0, 1));
                due.same(row[0] + " apart", row[1] == 1, x.fits(0, 1));
                due.same("the other way", row[1] == 1, x.fits(1, 0));
            }
        }
    }

    static void promise13WithoutTravelAndSlack() {
        TriggerNetwork x = ready("station 0 0;station 0 0;station 0 0;slack 0;votes 8;");
        x.setLevel(0, 5);
        Net.shake(x, 1, 5);
        Net.shake(x, 2, 5);
        due.same("in one tick", true, x.fits(0, 1));
        due.same("one apart", false, x.fits(0, 2));
        due.same("one apart", false, x.fits(2, 1));
    }

    /** "Two picks fit if they are of different stations" */
    static void promise13OfOneStation() {
        TriggerNetwork x = ready("station 0 0;slack 99;");
        Net.shake(x, 0, 5);
        Net.shake(x, 0, 0);
        x.pass(1);
        Net.shake(x, 0, 5);
        due.same("two of one station", false, x.fits(0, 1));
        due.same("the other way", false, x.fits(1, 0));
        due.same("a pick and itself", false, x.fits(0, 0));
        due.same("a pick and itself", false, x.fits(1, 1));
    }

    /** "false if one of them is removed" */
    static void promise13RemovedOnesNeverFit() {
        TriggerNetwork x = ready("station 0 0;station 0 0;slack 9;");
        Net.shake(x, 0, 5);
        Net.shake(x, 1, 5);
        due.same("before", true, x.fits(0, 1));
        x.mute(0);
        due.same("the first", false, x.fits(0, 1));
        due.same("the second", false, x.fits(1, 0));
        x.unmute(0);
        due.same("never again", false, x.fits(0, 1));
        x.mute(1);
        due.same("both", false, x.fits(0, 1));
        x.undo();
        x.undo();
        x.undo();
        due.same("undone", true, x.fits(0, 1));
    }

    /** "Throws IndexOutOfBoundsException if there is no such pick" */
    static void promise13NoSuchPick() {
        TriggerNetwork x = ready("station 0 0;station 0 0;");
        due.noIndex("none at all", () -> x.fits(0, 0) ? 1 : 0);
        Net.shake(x, 0, 5);
        Net.shake(x, 1, 5);
        x.mute(0);
        for (int wrong : new int[] {-1, 2, 60, LEAST, GREATEST}) {
            due.noIndex("the first", () -> x.fits(wrong, 1) ? 1 : 0);
            due.noIndex("the second", () -> x.fits(1, wrong) ? 1 : 0);
            due.noIndex("though the other is removed", () -> x.fits(0, wrong) ? 1 : 0);
            due.noIndex("both", () -> x.fits(wrong, wrong) ? 1 : 0);
        }
    }

    // ---- event: its arguments

    /** "Throws IndexOutOfBoundsException if there is no such event (checked first)" */
    static void promise14NoSuchEvent() {
        TriggerNetwork x = ready("station 0 0;votes 1;");
        due.noIndex("none at all", () -> x.event(0, 0));
        Net.shake(x, 0, 5);
        for (int wrong : new int[] {-1, 1, 20, LEAST, GREATEST}) {
            due.noIndex("no event", () -> x.event(wrong, 0));
            due.noIndex("checked first", () -> x.event(wrong, -1));
            due.noIndex("checked first", () -> x.event(wrong, 7));
        }
        due.same("the last one is there", 0, x.event(0, 0));
    }

    /** "Throws IllegalArgumentException if what is out of range" */
    static void promise14WhatOutOfRange() {
        TriggerNetwork x = oneEvent();
        for (int wrong : new int[] {-1, 7, LEAST, GREATEST}) {
            due.noArgument("no such property", () -> x.event(0, wrong));
        }
        due.same("the lowest", 0, x.event(0, 0));
        due.same("the highest", 5, x.event(0, 6));
        x.retract(0);
        due.noArgument("of a retracted one too", () -> x.event(0, 7));
        due.noArgument("of a retracted one too", () -> x.event(0, -1));
    }

    /** "for a retracted event 3 to 6 are NONE"; it "has no picks any more". */
    static void promise14RetractedEvent() {
        int[] before = {0, 1, 3, 0, 3, 0, 5};
        int[] after = {1, 0, 3, -1, -1, -1, -1};
        TriggerNetwork x = oneEvent();
        TriggerNetwork y = oneEvent();
        for (int what = 0; what <= 6; what++) {
            due.same("it stands: " + what, before[what], x.event(0, what));
        }
        x.retract(0);
        y.mute(0);
        for (int what = 0; what <= 6; what++) {
            due.same("retracted: " + what, after[what], x.event(0, what));
            due.same("retracted by muting: " + what, after[what], y.event(0, what));
        }
    }

    // ---- event: votes

    /** "has at least as many picks as votes tells" */
    static void promise14VotesAreReached() {
        for (int votes = 1; votes <= 8; votes++) {
            TriggerNetwork x = ready("station 0 0;".repeat(8) + "slack 9;votes " + votes + ";");
            for (int station = 0; station < votes; station++) {
                due.same("too few", 0, x.size(4));
                due.same("of none", station == 0 ? 0 : -1, station == 0 ? 0 : x.pick(station - 1, 3));
                Net.shake(x, station, 5);
            }
            due.same("enough", 1, x.size(4));
            due.same("all of them", votes, x.event(0, 1));
            due.same("declared in this tick", 2 + votes, x.event(0, 2));
        }
    }

    /** "joins the event with the lowest number" */
    static void promise14JoinsTheLowestEvent() {
        TriggerNetwork x = ready("station 0 0;station 0 0;votes 1;slack 9;");
        Net.shake(x, 0, 5);
        Net.shake(x, 0, 0);
        x.pass(1);
        Net.shake(x, 0, 5);
        due.same("two events", 2, x.size(4));
        Net.shake(x, 1, 5);
        due.same("the lowest", 0, x.pick(2, 3));
        due.same("it has two", 2, x.event(0, 1));
        due.same("the other has one", 1, x.event(1, 1));
        due.same("declared when it was", 3, x.event(0, 2));
    }

    /** "that is not retracted" */
    static void promise14JoinsNoRetractedEvent() {
        TriggerNetwork x = ready("station 0 0;station 0 0;votes 1;slack 9;");
        Net.shake(x, 0, 5);
        Net.shake(x, 0, 0);
        x.pass(1);
        Net.shake(x, 0, 5);
        x.retract(0);
        Net.shake(x, 1, 5);
        due.same("the lowest that stands", 1, x.pick(2, 3));
        due.same("no picks", 0, x.event(0, 1));
        due.same("no new event", 2, x.size(4));
    }

    /** "and all of whose picks fit to it" */
    static void promise14JoinsIfAllFit() {
        String text = "speed 100;slack 0;votes 2;station 0 0;station 100 0;station 70 0;";
        TriggerNetwork x = ready(text);
        Net.shake(x, 0, 5);
        Net.shake(x, 1, 5);
        x.pass(2);
        Net.shake(x, 2, 5);
        due.same("4 apart of 7", true, x.fits(0, 2));
        due.same("3 apart of 3", true, x.fits(1, 2));
        due.same("it joins", 0, x.pick(2, 3));
        TriggerNetwork y = ready(text);
        Net.shake(y, 0, 5);
        Net.shake(y, 1, 5);
        y.pass(3);
        Net.shake(y, 2, 5);
        due.same("5 apart of 7", true, y.fits(0, 2));
        due.same("4 apart of 3", false, y.fits(1, 2));
        due.same("it does not join", -1, y.pick(2, 3));
        due.same("two picks", 2, y.event(0, 1));
    }

    /** The first pick of the event does not fit, the last does; a later event is joined. */
    static void promise14JoinsALaterEventIfTheLowerDoesNotFit() {
        TriggerNetwork x = ready("slack 2;votes 1;station 0 0;station 0 0;station 0 0;");
        Net.shake(x, 0, 5);
        x.setLevel(0, 0);
        x.pass(3);
        Net.shake(x, 1, 5);
        due.same("event 1", 1, x.pick(1, 3));
        Net.shake(x, 2, 5);
        due.same("not event 0", 1, x.pick(2, 3));
        due.same("no third event", 2, x.size(4));
    }

    /** "all other picks ... that are of no event" */
    static void promise14GroupsTakeNoPickOfAnEvent() {
        TriggerNetwork x = ready("speed 100;slack 0;votes 2;station 0 0;station 100 0;station 70 0;");
        Net.shake(x, 0, 5);
        Net.shake(x, 1, 5);
        x.pass(3);
        Net.shake(x, 2, 5);
        due.same("it fits to a pick of event 0", true, x.fits(0, 2));
        due.same("but makes no event with it", 1, x.size(4));
        due.same("which stays where it was", 0, x.pick(0, 3));
    }

    /** "and not removed" */
    static void promise14GroupsTakeNoRemovedPick() {
        TriggerNetwork x = ready("slack 9;votes 2;station 0 0;station 0 0;station 0 0;");
        Net.shake(x, 0, 5);
        x.mute(0);
        x.unmute(0);
        Net.shake(x, 1, 5);
        due.same("alone", 0, x.size(4));
        Net.shake(x, 2, 5);
        due.same("with the one that is not removed", 2, x.event(0, 1));
        due.same("the removed one", -1, x.pick(0, 3));
    }

    /** "by ascending number ... taking each one that fits to all picks of the group" */
    static void promise14GroupsGrowByAscendingNumber() {
        TriggerNetwork x = ready("speed 100;slack 0;votes 3;station 0 0;station 0 0;station 100 0;station 100 0;");
        Net.shake(x, 0, 5);
        Net.shake(x, 1, 5);
        due.same("0 and 1 do not fit", false, x.fits(0, 1));
        x.setLevel(2, 5);
        Net.shake(x, 3, 5);
        due.same("2 and 3 fit", true, x.fits(2, 3));
        due.same("the fourth has taken 0 and 2", 3, x.event(0, 1));
        due.same("0", 0, x.pick(0, 3));
        due.same("not 1, which does not fit to 0", -1, x.pick(1, 3));
        due.same("2", 0, x.pick(2, 3));
        due.same("3", 0, x.pick(3, 3));
    }

    /** A pick that fits to the new one alone is not taken: the group stays too small. */
    static void promise14GroupsNeedAllToFit() {
        TriggerNetwork x = ready("speed 100;slack 0;votes 3;station 0 0;station 0 0;station 100 0;");
        Net.shake(x, 0, 5);
        Net.shake(x, 1, 5);
        Net.shake(x, 2, 5);
        due.same("it fits to 0", true, x.fits(0, 2));
        due.same("it fits to 1", true, x.fits(1, 2));
        due.same("two are too few", 0, x.size(4));
        due.same("nothing comes of it", -1, x.pick(2, 3));
    }

    /** "The new pick votes at once", before the later stations of its tick make theirs. */
    static void promise14VotesAtOnce() {
        TriggerNetwork x = ready("speed 100;slack 0;votes 3;station 0 0;station 100 0;station 100 0;station 0 0;");
        Net.shake(x, 3, 5);
        x.pass(1);
        for (int station = 0; station < 3; station++) {
            x.setLevel(station, 5);
        }
        due.same("three picks in one tick", 3, x.pass(1));
        due.same("the first alone was too few", -1, x.pick(1, 3));
        due.same("the third is with the second", 0, x.pick(3, 3));
        due.same("the second", 0, x.pick(2, 3));
        due.same("and the old one, which does not fit to the first", 0, x.pick(0, 3));
        due.same("one event", 1, x.size(4));
    }

    /** "there are fewer than 20 events" */
    static void promise14TwentyEventsAtMost() {
        TriggerNetwork x = Net.of("station 0 0;station 0 0;average 1 2;trigger 150 150;votes 1;slack 0;");
        x.pass(2);
        for (int event = 0; event < 20; event++) {
            Net.shake(x, 0, 5);
            due.same("events", event + 1, x.size(4));
            Net.shake(x, 0, 0);
            x.pass(1);
        }
        due.same("the twentieth", 19, x.pick(19, 3));
        due.same("a pick more", 1, Net.shake(x, 0, 5));
        due.same("no event more", 20, x.size(4));
        due.same("nothing comes of it", -1, x.pick(20, 3));
        Net.shake(x, 0, 0);
        x.retract(3);
        x.pass(1);
        Net.shake(x, 0, 5);
        due.same("a retracted one leaves no room", 20, x.size(4));
        due.same("nothing comes of it", -1, x.pick(21, 3));
        due.noIndex("no event", () -> x.event(20, 0));
    }

    static void promise14JoinsWhenThereAreTwentyEvents() {
        TriggerNetwork x = Net.of("station 0 0;station 0 0;average 1 2;trigger 150 150;votes 1;slack 0;");
        x.pass(2);
        for (int event = 0; event < 20; event++) {
            x.setLevel(1, event == 19 ? 5 : 0);
            Net.shake(x, 0, 5);
            Net.shake(x, 0, 0);
            x.pass(1);
        }
        due.same("the last one joins", 19, x.pick(20, 3));
        due.same("two picks", 2, x.event(19, 1));
    }

    /** "those that it had are of no event then": a group can take them again. */
    static void promise14PicksOfARetractedEventAreFree() {
        TriggerNetwork x = ready("slack 9;votes 2;station 0 0;station 0 0;station 0 0;");
        x.setLevel(0, 5);
        Net.shake(x, 1, 5);
        x.retract(0);
        Net.shake(x, 2, 5);
        due.same("a new event", 2, x.size(4));
        for (int pick = 0; pick < 3; pick++) {
            due.same("of it", 1, x.pick(pick, 3));
        }
    }

    // ---- event: location

    /** "of several the one with the lowest number" */
    static void promise14LowestNodeOfSeveral() {
        TriggerNetwork x = oneEvent();
        due.same("one pick: each node has misfit 0", 0, x.event(0, 3));
        TriggerNetwork y = ready("station 0 50;station 60 50;votes 2;slack 0;speed 10;grid 0 0 3 3 50;");
        y.setLevel(0, 5);
        Net.shake(y, 1, 5);
        int[] misfits = new int[9];
        for (int node = 0; node < 9; node++) {
            misfits[node] = y.misfit(node, 0);
        }
        due.same("at 50,0", 20, misfits[1]);
        due.same("at 100,0", 47, misfits[2]);
        due.same("at 50,50", 40, misfits[4]);
        due.same("at 50,100", 20, misfits[7]);
        due.same("0,0 and 0,100 have 28", misfits[0], misfits[6]);
        due.same("the lower one of 1 and 7", 1, y.event(0, 3));
    }

    /** "located at the node with the smallest misfit", the last one too. */
    static void promise14TheLastNode() {
        TriggerNetwork x = ready("station 99 99;station 0 0;votes 2;slack 0;speed 10;grid 0 0 12 12 9;");
        Net.shake(x, 0, 5);
        x.pass(139);
        Net.shake(x, 1, 5);
        due.same("an event", 1, x.size(4));
        due.same("the last of 144", 143, x.event(0, 3));
        due.same("origin", 3, x.event(0, 4));
        due.same("misfit", 0, x.event(0, 5));
        due.same("the node before has more", 16, x.misfit(142, 0));
    }

    static void promise14OneNode() {
        TriggerNetwork x = ready("station 0 0;station 30 0;votes 2;slack 0;speed 10;grid 0 0 1 1 1;");
        x.setLevel(0, 5);
        Net.shake(x, 1, 5);
        due.same("the only one", 0, x.event(0, 3));
        due.same("(3 - 27) / 2", -12, x.event(0, 4));
        due.same("15 and 15", 30, x.event(0, 5));
    }

    /** "The origin of the node is the sum of the delays / the number of the picks", and / truncates toward 0. */
    static void promise14OriginTruncatesTowardZero() {
        TriggerNetwork x = ready("station 4 0;station 3 0;station 0 3;votes 3;slack 0;speed 10;grid 0 0 1 1 1;");
        x.setLevel(0, 5);
        x.setLevel(1, 5);
        Net.shake(x, 2, 5);
        due.same("(-1 + 0 + 0) / 3", 0, x.event(0, 4));
        due.same("1 + 0 + 0", 1, x.event(0, 5));
        TriggerNetwork y = ready("station 7 0;station 8 0;votes 2;slack 0;speed 10;grid 0 0 1 1 1;");
        y.setLevel(0, 5);
        Net.shake(y, 1, 5);
        due.same("(-4 - 5) / 2", -4, y.event(0, 4));
        due.same("0 and 1", 1, y.event(0, 5));
        TriggerNetwork z = ready("station 0 0;station 1 0;votes 2;slack 0;speed 10;grid 0 0 1 1 1;");
        z.setLevel(0, 5);
        Net.shake(z, 1, 5);
        due.same("(3 + 2) / 2", 2, z.event(0, 4));
    }

    // ---- event: magnitude

    /** "the one at index (n - 1) / 2, counted from 0, of the n magnitudes of its picks in ascending order" */
    static void promise14MagnitudeInTheMiddle() {
        StringBuilder text = new StringBuilder("station 0 0;".repeat(8) + "slack 9;votes 1;");
        for (int rung = 1; rung <= 8; rung++) {
            text.append("rung ").append(rung * 10).append(' ').append(rung).append(';');
        }
        TriggerNetwork x = ready(text.toString());
        int[] levels = {80, 10, 50, 30, 20, 70, 60, 40};
        int[] middles = {8, 1, 5, 3, 3, 3, 5, 4};
        for (int station = 0; station < 8; station++) {
            Net.shake(x, station, levels[station]);
            due.same("one event", 1, x.size(4));
            due.same("of " + (station + 1), middles[station], x.event(0, 6));
        }
    }

    /** "(NONE counts as -1)" */
    static void promise14NoneCountsAsMinusOne() {
        TriggerNetwork x = ready("station 0 0;".repeat(4) + "slack 9;votes 1;rung 10 0;rung 20 7;");
        Net.shake(x, 0, 9);
        due.same("NONE", -1, x.event(0, 6));
        Net.shake(x, 1, 20);
        due.same("NONE and 7", -1, x.event(0, 6));
        Net.shake(x, 2, 10);
        due.same("NONE, 0 and 7", 0, x.event(0, 6));
        Net.shake(x, 3, 9);
        due.same("NONE, NONE, 0 and 7", -1, x.event(0, 6));
        TriggerNetwork y = oneEventWithout("decay 0;", 9999);
        due.same("no rungs", -1, y.event(0, 6));
    }

    private static TriggerNetwork oneEventWithout(String text, int level) {
        TriggerNetwork x = ready("station 30 40;votes 1;grid 0 0 1 1 1;speed 999;" + text);
        Net.shake(x, 0, level);
        return x;
    }

    /** "the amplitude peak + decay * (distance from the node of the event to the station)" */
    static void promise14AmplitudeJustReachesARung() {
        due.same("9 + 50", 1, oneEventWithout("rung 0 1;rung 60 2;", 9).event(0, 6));
        due.same("10 + 50", 2, oneEventWithout("rung 0 1;rung 60 2;", 10).event(0, 6));
        due.same("59 + 0", 1, oneEventWithout("decay 0;rung 0 1;rung 60 2;", 59).event(0, 6));
        due.same("60 + 0", 2, oneEventWithout("decay 0;rung 0 1;rung 60 2;", 60).event(0, 6));
        due.same("49 + 99 * 50", 1, oneEventWithout("decay 99;rung 0 1;rung 5000 2;", 49).event(0, 6));
        due.same("50 + 99 * 50", 2, oneEventWithout("decay 99;rung 0 1;rung 5000 2;", 50).event(0, 6));
    }

    /** A pick's amplitude can exceed what the method ladder takes. */
    static void promise14GreatestAmplitude() {
        TriggerNetwork x = ready("station 0 0;votes 1;grid 999 999 1 1 1;decay 99;rung 9999 99;");
        Net.shake(x, 0, 9999);
        due.same("9999 + 99 * 1412 is above 99999", 99, x.event(0, 6));
    }

    /** The node that counts is the event's own. */
    static void promise14AmplitudeFromTheEventsNode() {
        TriggerNetwork x = ready("station 99 0;station 0 0;votes 2;slack 0;speed 10;grid 0 0 2 1 99;decay 1;rung 0 1;"
                + "rung 6 2;rung 104 3;");
        Net.shake(x, 0, 7);
        x.pass(98);
        Net.shake(x, 1, 5);
        due.same("at the first station", 1, x.event(0, 3));
        due.same("7 + 0 and 5 + 99: 2 and 3", 2, x.event(0, 6));
    }

    // ---- eventPick

    /** "NONE if there are not so many, or k is negative" */
    static void promise15NotSoMany() {
        TriggerNetwork x = ready("station 0 0;station 0 0;station 0 0;votes 2;slack 9;");
        Net.shake(x, 2, 5);
        Net.shake(x, 0, 5);
        due.same("the first", 0, x.eventPick(0, 0));
        due.same("the last", 1, x.eventPick(0, 1));
        due.same("no third", -1, x.eventPick(0, 2));
        due.same("far", -1, x.eventPick(0, 60));
        due.same("greatest", -1, x.eventPick(0, GREATEST));
        due.same("negative", -1, x.eventPick(0, -1));
        due.same("least", -1, x.eventPick(0, LEAST));
    }

    /** "Returns a pick of an event, by ascending number": picks of other events, of none and removed ones are left out. */
    static void promise15ByAscendingNumber() {
        TriggerNetwork x = ready("station 0 0;station 0 0;station 0 0;station 0 0;votes 3;slack 2;");
        Net.shake(x, 3, 5);
        Net.shake(x, 3, 0);
        x.pass(3);
        Net.shake(x, 3, 5);
        x.setLevel(0, 5);
        Net.shake(x, 1, 5);
        due.same("of none", -1, x.pick(0, 3));
        for (int k = 0; k < 3; k++) {
            due.same("by number", k + 1, x.eventPick(0, k));
        }
        Net.shake(x, 2, 5);
        due.same("one joins", 4, x.eventPick(0, 3));
        x.mute(0);
        due.same("1, 3 and 4 are left", 3, x.eventPick(0, 1));
        due.same("1, 3 and 4 are left", 4, x.eventPick(0, 2));
        due.same("no more", -1, x.eventPick(0, 3));
    }

    static void promise15OfARetractedEvent() {
        TriggerNetwork x = oneEvent();
        x.retract(0);
        due.same("it has none", -1, x.eventPick(0, 0));
        due.same("negative", -1, x.eventPick(0, -1));
    }

    /** "Throws IndexOutOfBoundsException if there is no such event" */
    static void promise15NoSuchEvent() {
        TriggerNetwork x = ready("station 0 0;votes 1;");
        due.noIndex("none at all", () -> x.eventPick(0, 0));
        Net.shake(x, 0, 5);
        for (int wrong : new int[] {-1, 1, 20, LEAST, GREATEST}) {
            due.noIndex("no event", () -> x.eventPick(wrong, 0));
            due.noIndex("no event, and k is negative", () -> x.eventPick(wrong, -1));
        }
    }

    // ---- misfit

    /** "Throws IndexOutOfBoundsException if there is no such node or event (checked first)" */
    static void promise16NoSuchNode() {
        TriggerNetwork x = oneEvent();
        due.same("the last node", 0, x.misfit(24, 0));
        for (int wrong : new int[] {-1, 25, 144, LEAST, GREATEST}) {
            due.noIndex("no node", () -> x.misfit(wrong, 0));
        }
        x.retract(0);
        for (int wrong : new int[] {-1, 25, 144, LEAST, GREATEST}) {
            due.noIndex("checked first", () -> x.misfit(wrong, 0));
        }
    }

    static void promise16NoSuchEvent() {
        TriggerNetwork x = oneEvent();
        for (int wrong : new int[] {-1, 1, 20, LEAST, GREATEST}) {
            due.noIndex("no event", () -> x.misfit(0, wrong));
            due.noIndex("neither", () -> x.misfit(25, wrong));
        }
        TriggerNetwork y = new TriggerNetwork();
        due.noIndex("none at all", () -> y.misfit(0, 0));
    }

    /** "Throws IllegalStateException if the event is retracted" */
    static void promise16RetractedEvent() {
        TriggerNetwork x = oneEvent();
        due.same("it stands", 0, x.misfit(0, 0));
        x.retract(0);
        due.noState("retracted", () -> x.misfit(0, 0));
        due.noState("retracted", () -> x.misfit(24, 0));
        x.undo();
        due.same("it stands again", 0, x.misfit(0, 0));
        x.mute(0);
        due.noState("retracted by muting", () -> x.misfit(0, 0));
    }

    /** "the sum of the absolute differences of the delays and the origin", which / has truncated */
    static void promise16MisfitOfOnePickAndOfMore() {
        TriggerNetwork x = ready("station 4 0;station 3 0;station 0 3;votes 1;slack 0;speed 10;grid 0 0 1 1 1;");
        Net.shake(x, 0, 5);
        due.same("one pick", 0, x.misfit(0, 0));
        TriggerNetwork y = ready("station 4 0;station 3 0;station 0 3;votes 3;slack 0;speed 10;grid 0 0 1 1 1;");
        y.setLevel(0, 5);
        y.setLevel(1, 5);
        Net.shake(y, 2, 5);
        due.same("-1, 0 and 0 around 0", 1, y.misfit(0, 0));
        TriggerNetwork z = ready("station 0 0;station 999 999;votes 2;slack 0;speed 1;grid 0 0 1 1 1;");
        z.setLevel(0, 5);
        Net.shake(z, 1, 5);
        due.same("3 and -14117 around -7057", 14120, z.misfit(0, 0));
    }
}
