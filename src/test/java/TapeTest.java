/** Promise 2, and how abbey and years (3, 4) take the tape. */
public final class TapeTest {
    public static void main(String[] args) {
        order();
        leftOut();
        full();
        taken();
        Check.finish();
    }

    private static void order() {
        TithedThoughts t = new TithedThoughts();
        // "tithe 12", then ";", a blank and a line's end: the highest byte is the first sign.
        Check.due("feed", t.feed(0x7469746865203132L, 0x3b20000000000000L, 0x000000000000000aL), 11);
        Check.due("count 11", t.count(11), 11);
        Check.due("abbey", t.abbey(), 0);
        Check.due("tithe", t.count(2), 12);
        Check.due("count 11 behind", t.count(11), 0);
    }

    private static void leftOut() {
        TithedThoughts t = new TithedThoughts();
        Check.due("0, 9, 11, 13, 31, 127, 128, 255 are left out", t.feed(0x00090b0d1f7f80ffL, 0, 0), 0);
        Check.due("10, 32, 126 stay", t.feed(0x0a207e0000000000L, -1L, 0x7f7f7f7f7f7f7f7fL), 3);
        Check.due("126 is no token", t.abbey(), 1 + 16 * 2);
    }

    private static void full() {
        TithedThoughts t = new TithedThoughts();
        long blanks = 0x2020202020202020L;
        for (int i = 0; i < 41; i++) {
            t.feed(blanks, blanks, blanks);
        }
        Check.due("984 signs", t.count(11), 984);
        Check.due("992 signs", t.feed(0, blanks, 0), 992);
        Check.due("1000 signs", t.feed(0, 0x2020202020203b3bL, 0x7469746865203132L), 1000);
        Check.due("still 1000 signs", t.feed(0x3b3b3b3b3b3b3b3bL, 0, 0), 1000);
        Check.due("the 999th sign is wrong", t.abbey(), 1 + 16 * 998);
        for (int i = 0; i < 50; i++) {
            t.feed(blanks, blanks, blanks);
        }
        Check.due("1000 blanks", t.count(11), 1000);
        Check.due("1000 blanks as years", t.years(), 0);
    }

    private static void taken() {
        TithedThoughts t = Check.told("tithe 3;");
        Check.due("feed", Check.feed(t, "tithe 4;x"), 9);
        Check.due("fault", t.abbey(), 1 + 16 * 8);
        Check.due("empty behind a fault", t.count(11), 0);
        Check.due("all stays", t.count(2), 3);
        Check.due("feed", Check.feed(t, "gate x;"), 7);
        Check.due("fault of years", t.years(), 2 + 16 * 5);
        Check.due("empty behind a fault of years", t.count(11), 0);
    }
}
