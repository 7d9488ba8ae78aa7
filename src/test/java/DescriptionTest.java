/** Promises 17 and 18: descriptions and their bytes. */
public final class DescriptionTest {
    private static final Due due = new Due();

    public static void main(String[] args) {
        TriggerNetwork x = Net.of("station 988 120;station 988 120;average 1 2;trigger 150 100;votes 1;slack 0;"
                + "grid 990 20 12 2 99;rung 70 0;rung 150 99;decay 0;");
        due.noIndex("no event", () -> x.describe(0));
        due.same("nothing described", -1, x.describedByte(0));
        x.pass(2);
        x.setLevel(0, 50);
        x.pass(1);
        due.same("no magnitude", "event 0 at 990,20 with 1 votes", Net.described(x, 0));
        due.same("its length", 30, x.describe(0));
        due.same("a byte", 'e', x.describedByte(0));
        due.same("the last byte", 's', x.describedByte(29));
        due.same("past the last", -1, x.describedByte(30));
        due.same("far past", -1, x.describedByte(Integer.MAX_VALUE));
        due.same("negative", -1, x.describedByte(-1));
        due.same("least", -1, x.describedByte(Integer.MIN_VALUE));
        x.setLevel(0, 70);
        x.pass(1);
        due.same("magnitude 0", "event 0 at 990,20 with 1 votes magnitude 0", Net.described(x, 0));
        x.setLevel(0, 5000);
        x.setLevel(1, 5000);
        x.pass(1);
        due.same("a later pick makes an event of its own", 2, x.size(4));
        due.same("magnitude 99", "event 1 at 990,20 with 1 votes magnitude 99", Net.described(x, 1));
        x.retract(1);
        due.same("it stays", "event 1 at 990,20 with 1 votes magnitude 99", Net.described(x));
        due.noIndex("no event", () -> x.describe(2));
        due.noIndex("negative", () -> x.describe(-1));
        due.same("parse", 0, Net.feed(x, ""));
        due.noIndex("no event", () -> x.describe(0));
        due.same("it stays", "event 1 at 990,20 with 1 votes magnitude 99", Net.described(x));
        retracted();
        due.finish();
    }

    private static void retracted() {
        TriggerNetwork x = Net.of("station 0 0;average 1 2;trigger 150 100;votes 1;");
        x.pass(2);
        for (int event = 0; event < 12; event++) {
            x.setLevel(0, 9);
            x.pass(1);
            x.setLevel(0, 0);
            x.pass(3);
        }
        due.same("long", "event 11 at 0,0 with 1 votes", Net.described(x, 11));
        x.retract(11);
        due.same("retracted", "event 11 retracted", Net.described(x, 11));
        due.same("length", 18, x.describe(11));
        due.same("past a shorter one", -1, x.describedByte(18));
        x.undo();
        due.same("it stays", "event 11 retracted", Net.described(x));
    }
}
