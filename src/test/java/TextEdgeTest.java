/**
 * Promises 1 to 6: each sentence of the document that names a boundary case has a test of its own,
 * with the promise's number in its name. The grammar of the network text belongs to promise 3.
 */
public final class TextEdgeTest {
    private static final int LEAST = Integer.MIN_VALUE;
    private static final int GREATEST = Integer.MAX_VALUE;
    private static final Due due = new Due();

    public static void main(String[] args) {
        due.runPromises(TextEdgeTest.class);
    }

    private static void good(String text) {
        bad(text, 0, -1);
    }

    private static void bad(String text, int code, int position) {
        TriggerNetwork x = new TriggerNetwork();
        due.same(text, code, Net.feed(x, text));
        due.same(text + " position", position, x.errorPosition());
    }

    /** The number between these two is good from low to high, and just outside has code 3. */
    private static void range(String before, int low, int high, String after) {
        good(before + low + after);
        good(before + high + after);
        if (low > 0) {
            bad(before + (low - 1) + after, 3, before.length());
        }
        // A number of five digits is no number at all.
        bad(before + (high + 1) + after, high == 9999 ? 1 : 3, before.length());
    }

    // ---- a new object: "Creates the network that the empty text describes, with an empty input buffer."

    static void promise01IsWhatTheEmptyTextDescribes() {
        TriggerNetwork x = new TriggerNetwork();
        TriggerNetwork y = Net.of("station 1 1;grid 3 3 1 1 1;rung 5 5;");
        y.pass(9);
        due.same("the empty text", 0, y.parse(0));
        due.same("the same", Net.state(y), Net.state(x));
        due.same("all is at its start", "tick 0 triggered 0 sizes 0,25,0,0,0,0", Net.state(x));
    }

    static void promise01HasNothing() {
        TriggerNetwork x = new TriggerNetwork();
        due.noIndex("no station", () -> x.station(0, 0));
        due.noIndex("no station", () -> x.between(0, 0));
        due.noIndex("no station", () -> x.travel(0, 0));
        due.noIndex("no station", () -> x.setLevel(0, 0));
        due.noIndex("no station", () -> x.mute(0));
        due.noIndex("no pick", () -> x.pick(0, 0));
        due.noIndex("no pick", () -> x.fits(0, 0) ? 1 : 0);
        due.noIndex("no event", () -> x.event(0, 0));
        due.noIndex("no event", () -> x.describe(0));
        due.same("no rung", -1, x.ladder(99999));
        due.same("nothing described", -1, x.describedByte(0));
        due.same("nothing to undo", -1, x.undo());
        due.noState("slot 0 is empty", () -> x.restoreSnapshot(0));
        due.noState("slot 1 is empty", () -> x.restoreSnapshot(1));
        due.same("ticks bring nothing", 0, x.pass(200));
    }

    static void promise01HasAnEmptyBuffer() {
        TriggerNetwork x = new TriggerNetwork();
        due.noArgument("no byte", () -> x.parse(1));
        due.same("the first bytes", 20, x.append(0, 0, 0, 0, 0));
    }

    static void promise01ObjectsShareNothing() {
        TriggerNetwork x = Net.of("station 1 1;");
        TriggerNetwork y = new TriggerNetwork();
        due.same("no station", 0, y.size(0));
        y.append(0, 0, 0, 0, 0);
        due.same("its own buffer", 20, x.append(0, 0, 0, 0, 0));
    }

    /** "An object is used for at most 512 calls": the last of them is answered as well as the first. */
    static void promise01ServesFor512Calls() {
        TriggerNetwork x = new TriggerNetwork();
        x.append(0x73746174, 0x696F6E20, 0x3120313B, 0x20202020, 0x20202020);
        x.parse(20);
        for (int call = 3; call <= 511; call++) {
            x.setLevel(0, call);
        }
        due.same("call 512", 511, x.setLevel(0, 0));
    }

    // ---- append

    /** "the four bytes of each argument, the most significant byte first" */
    static void promise02TheMostSignificantByteIsFirst() {
        TriggerNetwork x = new TriggerNetwork();
        x.append(0x73746174, 0x696F6E20, 0x31323320, 0x3938373B, 0x0A202020);
        due.same("station 123 987;", 0, x.parse(20));
        due.same("x", 123, x.station(0, 0));
        due.same("y", 987, x.station(0, 1));
        x.append(0x0A202020, 0x73746174, 0x696F6E20, 0x34353620, 0x3738393B);
        due.same("station 456 789;", 0, x.parse(20));
        due.same("x", 456, x.station(0, 0));
        due.same("y", 789, x.station(0, 1));
    }

    /** The bytes of negative arguments are bytes like others, and no token can have them. */
    static void promise02BytesAreUnsigned() {
        for (int at = 0; at < 20; at++) {
            int[] words = new int[5];
            java.util.Arrays.fill(words, 0x20202020);
            int shift = 24 - 8 * (at % 4);
            words[at / 4] ^= (0x20 ^ (at % 2 == 0 ? 0xFF : 0x80)) << shift;
            TriggerNetwork x = new TriggerNetwork();
            x.append(words[0], words[1], words[2], words[3], words[4]);
            due.same("a byte above 127", 1, x.parse(20));
            due.same("its place", at, x.errorPosition());
        }
    }

    /** "Returns the new length of the buffer", 500 of which are allowed. */
    static void promise02GoesUpTo500() {
        TriggerNetwork x = new TriggerNetwork();
        for (int length = 20; length <= 500; length += 20) {
            due.same("length", length, x.append(0x20202020, 0x20202020, 0x20202020, 0x20202020, 0x2020203F));
        }
        due.same("the last byte is there", 1, x.parse(500));
        due.same("the first error is told", 19, x.errorPosition());
    }

    /** "NONE, with nothing appended, if it would exceed 500" */
    static void promise02AppendsNothingOver500() {
        TriggerNetwork x = new TriggerNetwork();
        Net.append(x, " ".repeat(500));
        for (int k = 0; k < 3; k++) {
            due.same("over 500", -1, x.append(0x3F3F3F3F, 0x3F3F3F3F, 0x3F3F3F3F, 0x3F3F3F3F, 0x3F3F3F3F));
        }
        due.noArgument("it is no longer", () -> x.parse(501));
        due.same("it is as long, and blank", 0, x.parse(500));
        due.same("room again", 20, x.append(0, 0, 0, 0, 0));
    }

    // ---- parse: the length

    /** "length: 0 to the length of the buffer" */
    static void promise03LengthZero() {
        TriggerNetwork x = Net.of("station 1 1;");
        Net.append(x, "?");
        due.same("no byte of it", 0, x.parse(0));
        due.same("the empty text", 0, x.size(0));
    }

    static void promise03LengthOfTheBuffer() {
        TriggerNetwork x = new TriggerNetwork();
        Net.append(x, "station 1 1; decay ?");
        due.same("all of it", 1, x.parse(20));
        due.same("the last byte", 19, x.errorPosition());
    }

    /** "Throws IllegalArgumentException if length is out of range" */
    static void promise03LengthOutOfRange() {
        TriggerNetwork x = new TriggerNetwork();
        Net.append(x, "station 1 1;");
        due.noArgument("below", () -> x.parse(-1));
        due.noArgument("above", () -> x.parse(21));
        due.noArgument("least", () -> x.parse(LEAST));
        due.noArgument("greatest", () -> x.parse(GREATEST));
        due.same("nothing is changed: the buffer", 40, x.append(0, 0, 0, 0, 0));
        due.same("nothing is changed: its bytes", 0, x.parse(12));
        due.same("station", 1, x.size(0));
    }

    /** "the first length bytes of the input buffer" */
    static void promise03LengthCutsAToken() {
        TriggerNetwork x = new TriggerNetwork();
        Net.append(x, "station 12 3456;");
        due.same("the text is 345 long there", 1, x.parse(14));
        due.same("too early", 14, x.errorPosition());
        Net.append(x, "grid 1 1 1 12 9;");
        due.same("the word is cut", 1, x.parse(3));
        due.same("gri", 0, x.errorPosition());
        Net.append(x, "speed 60;?");
        due.same("what follows is of no account", 0, x.parse(9));
    }

    /** "a text of at most 500 bytes": all of them count. */
    static void promise03TextOf500Bytes() {
        bad(" ".repeat(499) + "?", 1, 499);
        bad(" ".repeat(496) + "grid", 1, 500);
        bad("speed 9" + " ".repeat(493), 1, 500);
        good("speed 9" + " ".repeat(492) + ";");
        good(" ".repeat(491) + "speed 60;");
        bad(";".repeat(500), 1, 0);
        bad("a".repeat(500), 1, 0);
        bad("speed " + "0".repeat(494), 1, 6);
        good("\n".repeat(500));
    }

    /** "it is also empty after a success", and after an error. */
    static void promise03EmptiesTheBuffer() {
        TriggerNetwork x = new TriggerNetwork();
        Net.append(x, "speed 60;");
        x.parse(9);
        due.noArgument("after a success", () -> x.parse(1));
        Net.append(x, "speed 60;?");
        x.parse(10);
        due.noArgument("after an error", () -> x.parse(1));
        due.same("the next text begins anew", 20, x.append(0, 0, 0, 0, 0));
    }

    // ---- parse: tokens

    /** "Spaces (byte 32) and line feeds (byte 10) separate tokens ...; any other byte is an invalid token." */
    static void promise03EveryByteBetweenTokens() {
        for (int sign = 0; sign < 256; sign++) {
            String text = "speed" + (char) sign + "5;";
            boolean blank = sign == 32 || sign == 10;
            boolean digit = sign >= '0' && sign <= '9';
            boolean letter = sign >= 'a' && sign <= 'z';
            bad(text, blank || digit ? 0 : 1, blank || digit ? -1 : letter ? 0 : 5);
        }
    }

    static void promise03EveryByteBetweenStatements() {
        for (int sign = 0; sign < 256; sign++) {
            boolean blank = sign == 32 || sign == 10;
            bad("speed 5;" + (char) sign + "slack 5;", blank ? 0 : 1, blank ? -1 : 8);
        }
    }

    /** "and are otherwise ignored" */
    static void promise03BlanksAreIgnored() {
        good("   \n\n  speed\n\n   60 \n ; \n\n");
        good("speed60;slack5;");
        good("station 1 1;station\n1\n1;");
        bad("spe ed 60;", 1, 0);
        bad("speed 6 0;", 1, 8);
    }

    /** "a maximal run of letters a to z, 1 to 8 letters" */
    static void promise03WordsAreMaximalRuns() {
        bad("speedslack 6;", 1, 0);
        bad("stationx 1 1;", 1, 0);
        bad("stationxy 1 1;", 1, 0);
        bad("s 1 1;", 1, 0);
        bad("xstation 1 1;", 1, 0);
        bad("sTation 1 1;", 1, 0);
        bad("speed 6;slackgrid 5;", 1, 8);
        bad("speed 6 stationstation;", 1, 8);
    }

    /** A word that differs from one of the grammar's by one letter is a token that it does not allow. */
    static void promise03WordsByEachLetter() {
        String[] texts = {
            "station 1 1;", "grid 1 1 1 1 1;", "speed 1;", "average 1 1;", "trigger 1 1;", "votes 1;", "slack 1;",
            "rung 1 1;", "decay 1;",
        };
        for (String text : texts) {
            good(text);
            for (int at = 0; at < text.indexOf(' '); at++) {
                bad(text.substring(0, at) + 'q' + text.substring(at + 1), 1, 0);
                bad(text.substring(0, at) + text.substring(at + 1), 1, 0);
                bad(text.substring(0, at) + text.charAt(at) + text.substring(at), 1, 0);
            }
        }
    }

    /** "a maximal run of digits, 1 to 4 digits ... A longer run ... is an invalid token." */
    static void promise03NumbersHaveFourDigitsAtMost() {
        good("speed 0006;");
        bad("speed 00006;", 1, 6);
        bad("speed 00000;", 1, 6);
        good("trigger 9999 0000;");
        bad("trigger 10000 0;", 1, 8);
        bad("speed 4294967297;", 1, 6);
        bad("speed 0000000000000000000000000000000000000006;", 1, 6);
        bad("speed 99999", 1, 6);
    }

    // ---- parse: the grammar

    /** "network = { statement ";" }": none at all, one, and many. */
    static void promise03AnyNumberOfStatements() {
        good("");
        good("speed 1;");
        good("speed 1;slack 1;decay 1;votes 1;station 1 1;rung 1 1;grid 1 1 1 1 1;average 1 1;trigger 1 1;");
        bad(";", 1, 0);
        bad("speed 1;;", 1, 8);
        bad("7;", 1, 0);
        bad("speed 1;7", 1, 8);
    }

    /** Each statement has just as many numbers as the grammar tells. */
    static void promise03CountOfNumbers() {
        String[] words = {"station", "grid", "speed", "average", "trigger", "votes", "slack", "rung", "decay"};
        int[] counts = {2, 5, 1, 2, 2, 1, 1, 2, 1};
        for (int k = 0; k < words.length; k++) {
            String right = words[k] + " 1".repeat(counts[k]);
            String fewer = words[k] + " 1".repeat(counts[k] - 1);
            good(right + ";");
            bad(fewer + ";", 1, fewer.length());
            bad(right + " 1;", 1, right.length() + 1);
            bad(fewer + " speed;", 1, fewer.length() + 1);
            bad(right + " speed 1;", 1, right.length() + 1);
        }
    }

    /** "or a text that ends too early ... its position is the length of the text" */
    static void promise03TextEndsTooEarly() {
        String[] words = {"station", "grid", "speed", "average", "trigger", "votes", "slack", "rung", "decay"};
        int[] counts = {2, 5, 1, 2, 2, 1, 1, 2, 1};
        for (int k = 0; k < words.length; k++) {
            for (int count = 0; count <= counts[k]; count++) {
                String text = words[k] + " 1".repeat(count);
                bad(text, 1, text.length());
                bad("\n" + text + "  \n", 1, text.length() + 4);
            }
        }
    }

    // ---- parse: the ranges, code 3

    static void promise03RangeOfStation() {
        range("station ", 0, 999, " 5;");
        range("station 5 ", 0, 999, ";");
        range("station 1 1;station ", 0, 999, " 1;");
    }

    static void promise03RangeOfGrid() {
        range("grid ", 0, 999, " 1 1 1 1;");
        range("grid 1 ", 0, 999, " 1 1 1;");
        range("grid 1 1 ", 1, 12, " 1 1;");
        range("grid 1 1 1 ", 1, 12, " 1;");
        range("grid 1 1 1 1 ", 1, 99, ";");
    }

    static void promise03RangeOfSpeed() {
        range("speed ", 1, 999, ";");
    }

    /** "short 1 to 50, long from short to 99" */
    static void promise03RangeOfAverage() {
        range("average ", 1, 50, " 99;");
        range("average 1 ", 1, 99, ";");
        range("average 7 ", 7, 99, ";");
        range("average 50 ", 50, 99, ";");
        bad("average 51 50;", 3, 8);
    }

    /** "on 1 to 9999, off 0 to on" */
    static void promise03RangeOfTrigger() {
        range("trigger ", 1, 9999, " 0;");
        range("trigger 1 ", 0, 1, ";");
        range("trigger 300 ", 0, 300, ";");
        range("trigger 9999 ", 0, 9999, ";");
    }

    static void promise03RangeOfVotes() {
        range("votes ", 1, 8, ";");
    }

    static void promise03RangeOfSlack() {
        range("slack ", 0, 99, ";");
    }

    static void promise03RangeOfDecay() {
        range("decay ", 0, 99, ";");
    }

    /** "amplitude 0 to 9999 and greater than that of the rung before" */
    static void promise03RangeOfTheAmplitude() {
        range("rung ", 0, 9999, " 5;");
        range("rung 70 5;rung ", 71, 9999, " 5;");
        range("rung 70 5;speed 5;rung 80 6;rung ", 81, 9999, " 6;");
        bad("rung 9999 5;rung 9999 5;", 3, 17);
        bad("rung 0 5;rung 0 6;", 3, 14);
        good("rung 0 5;rung 1 5;");
    }

    /** "magnitude 0 to 99 and not less than that of the rung before" */
    static void promise03RangeOfTheMagnitude() {
        range("rung 5 ", 0, 99, ";");
        range("rung 5 30;rung 6 ", 30, 99, ";");
        range("rung 5 99;rung 6 ", 99, 99, ";");
        range("rung 5 3;rung 6 30;station 1 1;rung 7 ", 30, 99, ";");
    }

    // ---- parse: codes 2 and 4

    /** "2: the word of a second statement of a sort that can occur only once" */
    static void promise03SecondStatement() {
        String[] once = {"grid 1 1 1 1 1;", "speed 1;", "average 1 1;", "trigger 1 1;", "votes 1;", "slack 1;", "decay 1;"};
        for (String statement : once) {
            String word = statement.substring(0, statement.indexOf(' '));
            bad(statement + statement, 2, statement.length());
            bad(statement + "station 1 1; " + word, 2, statement.length() + 13);
            bad(statement + word + " ?", 2, statement.length());
        }
        good(String.join("", once));
        bad("speed 1;slack 1;speed 1;slack 1;", 2, 16);
    }

    /** "at most 8 stations ... 4: the word station of a ninth station" */
    static void promise03NinthStation() {
        String eight = "station 1 1;".repeat(8);
        TriggerNetwork x = Net.of(eight);
        due.same("eight", 8, x.size(0));
        bad(eight + "station 1 1;", 4, 96);
        bad(eight + "\nstation", 4, 97);
        bad(eight + "station ?", 4, 96);
        bad(eight + "speed 1;station 1 1;", 4, 104);
        bad(eight + "stations 1 1;", 1, 96);
    }

    /** "at most 8 rungs ... the word rung of a ninth rung" */
    static void promise03NinthRung() {
        StringBuilder eight = new StringBuilder();
        for (int rung = 1; rung <= 8; rung++) {
            eight.append("rung ").append(rung).append(" 1;");
        }
        due.same("eight", 8, Net.of(eight.toString()).size(2));
        bad(eight + "rung 9 1;", 4, 72);
        bad(eight + "rung 1 1;", 4, 72);
        bad(eight + "rung", 4, 72);
        good(eight + "station 1 1;".repeat(8));
    }

    // ---- parse: which error is reported

    /** "The error with the smallest position is reported." */
    static void promise03SmallestPosition() {
        bad("speed 0;?", 3, 6);
        bad("speed 1;speed 0;", 2, 8);
        bad("speed ?;speed 0;", 1, 6);
        bad("station 1000 1;" + "station 1 1;".repeat(9), 3, 8);
        bad("average 60 0;", 3, 8);
        bad("grid 1 1 0 0 0;", 3, 9);
        bad("slack 100", 3, 6);
        bad("speed 1;slack", 1, 13);
    }

    /** "If several codes apply at one position, the smallest is reported." */
    static void promise03SmallestCode() {
        bad("speed 1 speed 1;", 1, 8);
        bad("speed 1;slack speed;", 1, 14);
        bad("speed 99999;", 1, 6);
        bad("speed 1 9999;", 1, 8);
        bad("station 1 1;".repeat(8) + "speed 1 station 1 1;", 1, 104);
        bad("station 1 1;".repeat(7) + "station 1 1 station", 1, 96);
    }

    // ---- parse: what it changes

    /** "On a parse error nothing changes except that the buffer is emptied" */
    static void promise03ErrorChangesNothing() {
        String[] wrong = {
            "?", "speed 0;", "station 1 1;speed 7;decay", "grid 1 1 1 1 1;grid", "rung 1 1;station 1 1;".repeat(2),
            "station 1 1;".repeat(9),
        };
        for (String text : wrong) {
            TriggerNetwork x = Net.of("station 9 9;station 60 9;average 1 2;trigger 150 100;votes 1;rung 1 1;");
            x.pass(2);
            x.setLevel(0, 5);
            x.pass(1);
            x.describe(0);
            x.saveSnapshot(1);
            x.mute(1);
            String before = Net.state(x);
            int travel = x.between(0, 1);
            due.same(text, true, Net.feed(x, text) != 0);
            due.same(text, before, Net.state(x));
            due.same(text, travel, x.between(0, 1));
            due.same("the description", "event 0 at 0,0 with 1 votes magnitude 1", Net.described(x));
            due.same("undo", 3, x.undo());
            due.same("the empty slot", false, x.saveSnapshot(0));
            due.same("the full slot", 3, x.restoreSnapshot(1));
        }
    }

    /** "A successful parse restores the initial situation" */
    static void promise03SuccessRestoresTheStart() {
        String text = "station 9 9;station 60 9;average 1 2;trigger 150 100;votes 1;";
        TriggerNetwork x = Net.of(text);
        String start = Net.state(x);
        x.pass(2);
        x.setLevel(0, 5);
        x.setLevel(1, 5);
        x.pass(1);
        x.mute(1);
        due.same("much is there", 2, x.size(3));
        due.same("parse", 0, Net.feed(x, text));
        due.same("at its start", start, Net.state(x));
        x.setLevel(0, 5);
        due.same("samples before count as 0, and no tick has passed", 0, x.pass(1));
        due.same("L", 5, x.station(0, 4));
    }

    /** Nothing is left of any text before, a faulty one or one before the last. */
    static void promise03NothingIsLeftOfTextsBefore() {
        String full = "station 7 7;".repeat(8) + "rung 1 1;rung 2 2;grid 9 9 2 2 9;speed 9;average 1 1;trigger 1 1;"
                + "votes 1;slack 9;decay 9;";
        TriggerNetwork x = new TriggerNetwork();
        for (int k = 0; k < 4; k++) {
            due.same("a faulty text", 1, Net.feed(x, full + "?"));
            due.same("the empty text", 0, x.parse(0));
            due.same("as if new", Net.state(new TriggerNetwork()), Net.state(x));
            due.same("no rung", -1, x.ladder(99999));
            if (k % 2 == 0) {
                due.same("a full text", 0, Net.feed(x, full));
                due.same("stations", 8, x.size(0));
            }
            due.same("two stations", 0, Net.feed(x, "station 0 0;station 59 0;"));
            due.same("stations", 2, x.size(0));
            due.same("speed 60: 590 / 60", 9, x.between(0, 1));
            due.same("nodes", 25, x.size(1));
        }
    }

    /** "A successful parse restores the initial situation": picks and events begin anew too. */
    static void promise03PicksAndEventsBeginAnew() {
        String text = "station 9 9;station 9 9;average 1 2;trigger 150 100;votes 1;slack 9;";
        TriggerNetwork x = Net.of(text);
        x.pass(2);
        x.setLevel(0, 5);
        x.setLevel(1, 5);
        x.pass(1);
        x.mute(0);
        x.mute(1);
        due.same("removed", 1, x.pick(0, 4));
        due.same("retracted", 1, x.event(0, 0));
        due.same("parse", 0, Net.feed(x, text));
        x.pass(3);
        x.setLevel(1, 7);
        x.pass(1);
        int[] pick = {1, 4, 7, 0, 0};
        int[] event = {0, 1, 4};
        for (int what = 0; what <= 4; what++) {
            due.same("pick: " + what, pick[what], x.pick(0, what));
        }
        for (int what = 0; what <= 2; what++) {
            due.same("event: " + what, event[what], x.event(0, what));
        }
        due.same("one pick", 1, x.size(3));
        due.same("one event", 1, x.size(5));
    }

    /** No pick of a text before votes: station 1 made the second one, in tick 5, of no event. */
    static void promise03PicksOfTextsBeforeDoNotVote() {
        String text = "station 9 9;station 9 9;average 1 2;trigger 150 100;votes 2;slack 0;";
        TriggerNetwork x = Net.of(text);
        x.pass(2);
        Net.shake(x, 0, 5);
        x.pass(1);
        Net.shake(x, 1, 5);
        due.same("no event", 0, x.size(4));
        due.same("parse", 0, Net.feed(x, text));
        x.pass(4);
        due.same("a pick in tick 5", 1, Net.shake(x, 0, 5));
        due.same("it is alone", 0, x.size(4));
        due.same("of none", -1, x.pick(0, 3));
    }

    /** "clears the undo history and empties both slots" */
    static void promise03SuccessForgets() {
        TriggerNetwork x = Net.of("station 9 9;");
        for (int k = 0; k < 12; k++) {
            x.pass(1);
        }
        x.saveSnapshot(0);
        x.saveSnapshot(1);
        due.same("the empty text", 0, x.parse(0));
        due.same("undo", -1, x.undo());
        due.noState("slot 0", () -> x.restoreSnapshot(0));
        due.noState("slot 1", () -> x.restoreSnapshot(1));
        due.same("no earlier one", false, x.saveSnapshot(0));
        due.same("no earlier one", false, x.saveSnapshot(1));
    }

    /** "in parentheses what applies without the statement", whatever the network before told. */
    static void promise03DefaultsApplyAgain() {
        TriggerNetwork x = Net.of("station 0 0;station 60 0;grid 50 50 2 2 9;speed 10;average 1 2;trigger 100 50;"
                + "votes 1;slack 99;rung 5 5;decay 9;");
        due.same("parse", 0, Net.feed(x, "station 0 0;station 60 0;"));
        due.same("grid 0 0 5 5 20", 25, x.size(1));
        due.same("its first node", 0, x.travel(0, 0));
        due.same("its next node in x", 3, x.travel(1, 0));
        due.same("its last node in y", 13, x.travel(20, 0));
        due.same("speed 60", 10, x.between(0, 1));
        due.same("speed 60", 9, Net.of("station 0 0;station 59 0;").between(0, 1));
        due.same("speed 60", 1, Net.of("station 0 0;station 6 0;").between(0, 1));
        due.same("no rungs", 0, x.size(2));
        due.same("no rungs", -1, x.ladder(99999));
        x.setLevel(0, 1);
        x.setLevel(1, 1);
        x.pass(11);
        due.same("short 3", 3, x.station(0, 3));
        due.same("not ready in tick 11, on is 300", 0, x.pass(1));
        due.same("long 12", 12, x.station(0, 4));
    }

    /** "short 1 to 50, long from short to 99 (... 3 and 12)": ready in tick 12. */
    static void promise03DefaultsOfTheAverage() {
        TriggerNetwork x = Net.of("station 0 0;");
        x.pass(10);
        x.setLevel(0, 1);
        due.same("tick 11 is too early", 0, x.pass(1));
        due.same("ready in tick 12", 1, x.pass(1));
        due.same("S", 2, x.station(0, 3));
        x.pass(8);
        due.same("S of 3", 3, x.station(0, 3));
        due.same("L of 10", 10, x.station(0, 4));
        x.pass(9);
        due.same("L of 12", 12, x.station(0, 4));
    }

    /** "(300 and 150, in percent)": S and L of these samples give 400 * S / L. */
    static void promise03DefaultsOfTheTrigger() {
        due.same("400 * 299 / 400", 299, ratioAfter(101, 99, 0));
        due.same("is below on", 0, ratioAfter(101, 99, 1));
        due.same("400 * 300 / 400", 300, ratioAfter(100, 100, 0));
        due.same("is on", 1, ratioAfter(100, 100, 1));
        TriggerNetwork x = Net.of("station 0 0;");
        x.pass(12);
        Net.shake(x, 0, 251);
        Net.shake(x, 0, 50);
        Net.shake(x, 0, 50);
        due.same("on", 1, x.triggered());
        Net.shake(x, 0, 50);
        due.same("400 * 150 / 401", 149, x.station(0, 5));
        due.same("is below off", 0, x.triggered());
        for (int k = 0; k < 8; k++) {
            x.undo();
        }
        Net.shake(x, 0, 250);
        Net.shake(x, 0, 50);
        x.pass(2);
        due.same("400 * 150 / 400", 150, x.station(0, 5));
        due.same("is not", 1, x.triggered());
    }

    /** The ratio, or whether it makes a pick, after one sample in tick 8 and three in ticks 13 to 15. */
    private static int ratioAfter(int early, int last, int what) {
        TriggerNetwork x = Net.of("station 0 0;");
        x.pass(7);
        Net.shake(x, 0, early);
        x.setLevel(0, 0);
        x.pass(4);
        Net.shake(x, 0, 100);
        Net.shake(x, 0, 100);
        int picks = Net.shake(x, 0, last);
        return what == 0 ? x.station(0, 5) : picks;
    }

    /** "3" votes and "2" ticks of slack without a statement */
    static void promise03DefaultsOfTheVotes() {
        TriggerNetwork x = Net.of("station 0 0;station 0 0;station 0 0;station 0 0;average 1 2;trigger 150 100;");
        x.pass(2);
        Net.shake(x, 0, 5);
        x.pass(1);
        Net.shake(x, 1, 5);
        due.same("2 apart", true, x.fits(0, 1));
        due.same("two are too few", 0, x.size(4));
        Net.shake(x, 2, 5);
        due.same("3 apart", false, x.fits(0, 2));
        due.same("two are too few", 0, x.size(4));
        Net.shake(x, 3, 5);
        due.same("three do", 1, x.size(4));
        due.same("without the first", -1, x.pick(0, 3));
    }

    /** "decay 0 to 99 (1)" */
    static void promise03DefaultOfDecay() {
        TriggerNetwork x = Net.of("station 50 0;average 1 2;trigger 150 100;votes 1;grid 0 0 1 1 1;rung 54 1;rung 55 2;"
                + "rung 56 3;");
        x.pass(2);
        Net.shake(x, 0, 5);
        due.same("5 + 1 * 50", 2, x.event(0, 6));
    }

    /** "numbered from 0 in the order of the text" */
    static void promise03StationsInTheOrderOfTheText() {
        TriggerNetwork x = Net.of("station 7 1;speed 5;station 6 2;station 5 3;");
        for (int station = 0; station < 3; station++) {
            due.same("x", 7 - station, x.station(station, 0));
            due.same("y", 1 + station, x.station(station, 1));
        }
    }

    // ---- errorPosition

    /** "NONE if that call succeeded or there was none" */
    static void promise04NoneWithoutACall() {
        TriggerNetwork x = new TriggerNetwork();
        due.same("none", -1, x.errorPosition());
        due.noArgument("thrown", () -> x.parse(1));
        due.same("still none", -1, x.errorPosition());
    }

    static void promise04NoneAfterASuccess() {
        TriggerNetwork x = new TriggerNetwork();
        due.same("error", 1, Net.feed(x, "  ?"));
        due.same("position", 2, x.errorPosition());
        due.same("it stays", 2, x.errorPosition());
        due.same("success", 0, x.parse(0));
        due.same("none", -1, x.errorPosition());
    }

    /** "of the last call of parse that did not throw an exception" */
    static void promise04ThrownCallsDoNotCount() {
        TriggerNetwork x = new TriggerNetwork();
        due.same("error", 3, Net.feed(x, "speed 0;"));
        due.noArgument("thrown", () -> x.parse(1));
        due.noArgument("thrown", () -> x.parse(-1));
        due.same("position", 6, x.errorPosition());
        due.same("a later error", 1, Net.feed(x, "?"));
        due.same("position 0", 0, x.errorPosition());
    }

    // ---- size

    /** "Throws IllegalArgumentException if what is out of range" */
    static void promise05WhatOutOfRange() {
        TriggerNetwork x = Net.of("station 1 1;");
        due.noArgument("below", () -> x.size(-1));
        due.noArgument("above", () -> x.size(6));
        due.noArgument("least", () -> x.size(LEAST));
        due.noArgument("greatest", () -> x.size(GREATEST));
        due.same("the lowest", 1, x.size(0));
        due.same("the highest", 0, x.size(5));
    }

    static void promise05Full() {
        StringBuilder text = new StringBuilder("station 1 1;".repeat(8) + "grid 1 1 12 12 1;");
        for (int rung = 1; rung <= 8; rung++) {
            text.append("rung ").append(rung).append(" 1;");
        }
        TriggerNetwork x = Net.of(text.toString());
        due.same("stations", 8, x.size(0));
        due.same("nodes", 144, x.size(1));
        due.same("rungs", 8, x.size(2));
    }

    /** "3 picks (removed ones too)" */
    static void promise05RemovedPicksCount() {
        TriggerNetwork x = oneEvent();
        x.mute(0);
        due.same("removed", 1, x.pick(0, 4));
        due.same("picks", 1, x.size(3));
    }

    /** "4 events (retracted ones too), 5 events that are not retracted" */
    static void promise05RetractedEventsCount() {
        TriggerNetwork x = oneEvent();
        due.same("events", 1, x.size(4));
        due.same("that stand", 1, x.size(5));
        x.retract(0);
        due.same("events", 1, x.size(4));
        due.same("that stand", 0, x.size(5));
        TriggerNetwork y = oneEvent();
        y.mute(0);
        due.same("events", 1, y.size(4));
        due.same("that stand", 0, y.size(5));
    }

    private static TriggerNetwork oneEvent() {
        TriggerNetwork x = Net.of("station 0 0;average 1 2;trigger 150 100;votes 1;");
        x.pass(2);
        Net.shake(x, 0, 5);
        return x;
    }

    // ---- tick

    /** "The tick is 0 at first, at most 9999." */
    static void promise06ZeroAtFirst() {
        TriggerNetwork x = new TriggerNetwork();
        due.same("at first", 0, x.tick());
        x.pass(1);
        due.same("after one", 1, x.tick());
        due.same("parse", 0, x.parse(0));
        due.same("at first again", 0, x.tick());
    }

    static void promise06AtMost9999() {
        TriggerNetwork x = new TriggerNetwork();
        Net.pass(x, 9999);
        due.same("the last", 9999, x.tick());
        due.noState("no later one", () -> x.pass(1));
        due.same("the last", 9999, x.tick());
    }
}
