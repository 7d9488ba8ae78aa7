/** Promises 1 to 6: a new object, the buffer, network texts and their errors, and what they describe. */
public final class TextTest {
    private static final Due due = new Due();

    public static void main(String[] args) {
        newObject();
        buffer();
        lengths();
        goodTexts();
        defaults();
        wrongTokens();
        tooEarly();
        secondStatements();
        ranges();
        ninthStatements();
        manyErrors();
        errorChangesNothing();
        successStartsAnew();
        sizes();
        due.finish();
    }

    private static void newObject() {
        TriggerNetwork x = new TriggerNetwork();
        due.same("stations", 0, x.size(0));
        due.same("nodes", 25, x.size(1));
        due.same("rungs", 0, x.size(2));
        due.same("picks", 0, x.size(3));
        due.same("events", 0, x.size(4));
        due.same("standing events", 0, x.size(5));
        due.same("tick", 0, x.tick());
        due.same("triggered", 0, x.triggered());
        due.same("error", -1, x.errorPosition());
        due.same("ladder", -1, x.ladder(99999));
        due.same("undo", -1, x.undo());
        due.same("described", -1, x.describedByte(0));
        due.same("events to come", -1, x.ticksToEvent());
        due.noArgument("an empty buffer", () -> x.parse(1));
        due.same("the first append", 20, x.append(0, 0, 0, 0, 0));
    }

    private static void buffer() {
        TriggerNetwork x = new TriggerNetwork();
        // "grid", " 1 2", " 3 4", " 5 ;" and a byte above 127: the most significant byte comes first.
        due.same("append", 20, x.append(0x67726964, 0x20312032, 0x20332034, 0x2035203B, 0xFF202020));
        due.same("the byte 255", 1, x.parse(17));
        due.same("its position", 16, x.errorPosition());
        due.same("append", 20, x.append(0x67726964, 0x20312032, 0x20332034, 0x2035203B, 0xFF202020));
        due.same("without it", 0, x.parse(16));
        due.same("nodes", 12, x.size(1));
        for (int length = 20; length <= 500; length += 20) {
            due.same("append", length, x.append(0x20202020, 0x20202020, 0x20202020, 0x20202020, 0x0A0A0A0A));
        }
        due.same("over 500", -1, x.append(0x41414141, 0, 0, 0, 0));
        due.same("over 500 again", -1, x.append(0x41414141, 0, 0, 0, 0));
        due.same("blanks", 0, x.parse(500));
        due.same("after a success", 20, x.append(0, 0, 0, 0, 0));
        due.same("a zero byte", 1, x.parse(20));
        due.same("after an error", 20, x.append(0, 0, 0, 0, 0));
    }

    private static void lengths() {
        TriggerNetwork x = new TriggerNetwork();
        Net.append(x, "station 1 2;?");
        due.noArgument("negative", () -> x.parse(-1));
        due.noArgument("least", () -> x.parse(Integer.MIN_VALUE));
        due.noArgument("too long", () -> x.parse(21));
        due.noArgument("greatest", () -> x.parse(Integer.MAX_VALUE));
        due.same("the buffer stays", 40, x.append(0, 0, 0, 0, 0));
        due.same("just the first bytes", 0, x.parse(12));
        due.same("stations", 1, x.size(0));
        due.noArgument("the buffer is empty", () -> x.parse(1));
        due.same("the empty text", 0, x.parse(0));
        due.same("stations", 0, x.size(0));
    }

    private static void good(String text) {
        TriggerNetwork x = new TriggerNetwork();
        due.same(text, 0, Net.feed(x, text));
        due.same(text, -1, x.errorPosition());
    }

    private static void goodTexts() {
        good("");
        good(" \n \n");
        good("station0 0;station999 999;");
        good("\nstation\n0\n0\n;\n");
        good("grid 0 0 1 1 1;");
        good("grid 999 999 12 12 99;");
        good("speed 1;station 1 1;");
        good("speed 999;");
        good("average 1 1;");
        good("average 50 50;");
        good("average 50 99;");
        good("trigger 1 0;");
        good("trigger 1 1;");
        good("trigger 9999 9999;");
        good("votes 1;");
        good("votes 8;");
        good("slack 0;");
        good("slack 99;");
        good("rung 0 0;rung 1 0;rung 9999 99;");
        good("decay 0;");
        good("decay 99;");
        good("decay 0001;");
        good("decay 1;slack 1;votes 1;trigger 1 1;average 1 1;speed 1;grid 1 1 1 1 1;rung 1 1;station 1 1;");
    }

    /** What applies without a statement shows in the answers. */
    private static void defaults() {
        TriggerNetwork x = Net.of("station 0 0;station 60 0;station 120 0;rung 0 0;rung 68 1;rung 69 2;rung 70 3;");
        due.same("speed 60", 10, x.between(0, 1));
        due.same("grid x", 13, x.travel(4, 0));
        due.same("grid y", 13, x.travel(20, 0));
        due.same("grid 80,80", 13, x.travel(24, 1));
        x.setLevel(0, 1);
        x.setLevel(1, 1);
        x.setLevel(2, 1);
        x.pass(12);
        due.same("short 3", 3, x.station(0, 3));
        due.same("long 12", 12, x.station(0, 4));
        x.setLevel(0, 8);
        due.same("below on", 0, x.pass(3));
        due.same("24 * 12 * 100 / (33 * 3)", 290, x.station(0, 5));
        x.undo();
        x.setLevel(0, 9);
        due.same("below on", 0, x.pass(2));
        due.same("on 300", 1, x.pass(1));
        x.pass(4);
        due.same("not below off", 158, x.station(0, 5));
        due.same("still triggered", 1, x.triggered());
        x.pass(1);
        due.same("off 150", 142, x.station(0, 5));
        due.same("triggered no more", 0, x.triggered());
        due.same("a pick alone is no event", 0, x.size(4));
        x.setLevel(1, 9);
        x.setLevel(2, 9);
        due.same("two picks", 2, x.pass(3));
        due.same("times 15 and 23", 15, x.pick(0, 1));
        due.same("times 15 and 23", 23, x.pick(1, 1));
        due.same("votes 3", 1, x.size(4));
        due.same("all of them", 3, x.event(0, 1));
        due.same("8 apart", true, x.fits(0, 2));
        TriggerNetwork y = Net.of("station 0 0;");
        y.pass(12);
        y.setLevel(0, 1);
        y.pass(8);
        due.same("off 150", 150, y.station(0, 5));
        due.same("150 is not below", 1, y.triggered());
        y.pass(1);
        due.same("133 is", 0, y.triggered());
    }

    private static void bad(String text, int code, int position) {
        TriggerNetwork x = new TriggerNetwork();
        due.same(text, code, Net.feed(x, text));
        due.same(text + " position", position, x.errorPosition());
    }

    private static void wrongTokens() {
        bad("?", 1, 0);
        bad("Decay 1;", 1, 0);
        bad("decay 1\t;", 1, 7);
        bad("decay\r1;", 1, 5);
        bad("decay -1;", 1, 6);
        bad("decay 1.0;", 1, 7);
        bad("decays 1;", 1, 0);
        bad("deca 1;", 1, 0);
        bad("secay 1;", 1, 0);
        bad("decax 1;", 1, 0);
        bad("stationss 1 1;", 1, 0);
        bad("stationsss 1 1;", 1, 0);
        bad("decay 00001;", 1, 6);
        bad("decay 12345;", 1, 6);
        bad("  \n;", 1, 3);
        bad("decay 1;;", 1, 8);
        bad("5;", 1, 0);
        bad("decay;", 1, 5);
        bad("decay 1 2;", 1, 8);
        bad("decay one;", 1, 6);
        bad("grid 1 1 1 1;", 1, 12);
        bad("grid 1 1 1 1 1 1;", 1, 15);
        bad("decay decay 1;", 1, 6);
        bad("decay 1 slack 1;", 1, 8);
        bad("{ decay 1; }", 1, 0);
        bad("decay 1\u00e9;", 1, 7);
        bad("dec ay 1;", 1, 0);
        bad("decay 1; z", 1, 9);
    }

    private static void tooEarly() {
        bad("decay", 1, 5);
        bad("decay 1", 1, 7);
        bad("decay 1  \n", 1, 10);
        bad("station 1", 1, 9);
        bad("slack 1;station 1 1", 1, 19);
    }

    private static void secondStatements() {
        bad("grid 1 1 1 1 1;grid 1 1 1 1 1;", 2, 15);
        bad("speed 1;speed 1;", 2, 8);
        bad("average 1 1;average 1 1;", 2, 12);
        bad("trigger 1 1;station 1 1;trigger 1 1;", 2, 24);
        bad("votes 1;votes 1;", 2, 8);
        bad("slack 1; slack 1;", 2, 9);
        bad("decay 1;decay 1;", 2, 8);
        bad("decay 1;decay", 2, 8);
    }

    private static void ranges() {
        bad("station 1000 0;", 3, 8);
        bad("station 0 1000;", 3, 10);
        bad("grid 1000 0 1 1 1;", 3, 5);
        bad("grid 0 1000 1 1 1;", 3, 7);
        bad("grid 0 0 0 1 1;", 3, 9);
        bad("grid 0 0 13 1 1;", 3, 9);
        bad("grid 0 0 1 0 1;", 3, 11);
        bad("grid 0 0 1 13 1;", 3, 11);
        bad("grid 0 0 1 1 0;", 3, 13);
        bad("grid 0 0 1 1 100;", 3, 13);
        bad("speed 0;", 3, 6);
        bad("speed 1000;", 3, 6);
        bad("average 0 1;", 3, 8);
        bad("average 51 60;", 3, 8);
        bad("average 5 4;", 3, 10);
        bad("average 5 100;", 3, 10);
        bad("trigger 0 0;", 3, 8);
        bad("trigger 5 6;", 3, 10);
        bad("votes 0;", 3, 6);
        bad("votes 9;", 3, 6);
        bad("slack 100;", 3, 6);
        bad("rung 5 100;", 3, 7);
        bad("rung 5 5;rung 5 6;", 3, 14);
        bad("rung 5 5;rung 4 6;", 3, 14);
        bad("rung 5 5;rung 6 4;", 3, 16);
        bad("rung 9999 5;rung 9999 5;", 3, 17);
        bad("decay 100;", 3, 6);
    }

    private static void ninthStatements() {
        bad("station 1 1;".repeat(9), 4, 96);
        bad("station 1 1;".repeat(8) + "station", 4, 96);
        StringBuilder rungs = new StringBuilder();
        for (int rung = 1; rung <= 9; rung++) {
            rungs.append("rung ").append(rung).append(" 1;");
        }
        bad(rungs.toString(), 4, 72);
        good(rungs.substring(0, 72));
        good("station 1 1;".repeat(8) + rungs.substring(0, 72));
    }

    private static void manyErrors() {
        bad("decay 100;?", 3, 6);
        bad("decay ?;decay 100;", 1, 6);
        bad("slack 1;slack 100 ?", 2, 8);
        bad("decay 100", 3, 6);
    }

    private static void errorChangesNothing() {
        TriggerNetwork x = Net.of("station 3 4;slack 7;");
        x.setLevel(0, 9);
        x.pass(2);
        x.saveSnapshot(1);
        due.same("code", 1, Net.feed(x, "station 5 6;grid 1 1 2 1 1;decay"));
        due.same("position", 32, x.errorPosition());
        due.same("stations", 1, x.size(0));
        due.same("nodes", 25, x.size(1));
        due.same("x", 3, x.station(0, 0));
        due.same("level", 9, x.station(0, 2));
        due.same("tick", 2, x.tick());
        due.same("undo", 1, x.undo());
        due.same("the snapshot", 2, x.restoreSnapshot(1));
        due.noArgument("thrown", () -> x.parse(1));
        due.same("position", 32, x.errorPosition());
        due.same("success", 0, x.parse(0));
        due.same("position", -1, x.errorPosition());
    }

    private static void successStartsAnew() {
        TriggerNetwork x = Net.of("station 0 0;station 1 1;average 1 2;trigger 150 100;votes 1;slack 9;grid 5 5 2 2 2;");
        x.setLevel(0, 5);
        x.setLevel(1, 5);
        x.pass(2);
        x.setLevel(0, 500);
        x.pass(1);
        x.mute(1);
        x.saveSnapshot(0);
        x.saveSnapshot(1);
        due.same("an event", 1, x.size(4));
        due.same("triggered", 1, x.triggered());
        due.same("parse", 0, Net.feed(x, "station 0 0;station 1 1;average 1 3;"));
        due.same("tick", 0, x.tick());
        due.same("picks", 0, x.size(3));
        due.same("events", 0, x.size(4));
        due.same("nodes", 25, x.size(1));
        due.same("triggered", 0, x.triggered());
        for (int what = 2; what <= 7; what++) {
            due.same("station 0: " + what, 0, x.station(0, what));
            due.same("station 1: " + what, 0, x.station(1, what));
        }
        due.same("undo", -1, x.undo());
        due.noState("slot 0", () -> x.restoreSnapshot(0));
        due.noState("slot 1", () -> x.restoreSnapshot(1));
        x.setLevel(0, 1);
        x.pass(3);
        due.same("S", 1, x.station(0, 3));
        due.same("L", 3, x.station(0, 4));
        due.same("parse", 0, Net.feed(x, "rung 1 1;"));
        due.same("nothing of two networks before", 25, x.size(1));
        due.same("stations", 0, x.size(0));
        due.same("parse", 0, Net.feed(x, ""));
        due.same("parse", 0, Net.feed(x, ""));
        due.same("rungs", 0, x.size(2));
    }

    private static void sizes() {
        TriggerNetwork x = Net.of("station 0 0;station 9 9;grid 0 0 12 11 1;rung 1 1;rung 2 2;rung 3 3;average 1 2;"
                + "trigger 150 100;votes 1;slack 0;");
        due.same("stations", 2, x.size(0));
        due.same("nodes", 132, x.size(1));
        due.same("rungs", 3, x.size(2));
        x.pass(2);
        x.setLevel(0, 5);
        x.pass(1);
        x.pass(1);
        x.setLevel(1, 5);
        x.pass(1);
        due.same("picks", 2, x.size(3));
        due.same("events", 1, x.size(4));
        due.same("tick", 5, x.tick());
        x.retract(0);
        x.mute(0);
        due.same("removed ones too", 2, x.size(3));
        due.same("retracted ones too", 1, x.size(4));
        due.same("not retracted", 0, x.size(5));
        due.noArgument("negative", () -> x.size(-1));
        due.noArgument("too high", () -> x.size(6));
    }
}
