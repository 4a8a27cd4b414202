/** Promises 17 to 25 and 29: parts, dowries, pairs, guesses, counting at rest. */
public final class BarnTest {
    private static final String ABBEY = "thought a worth 4 part 1;thought b worth 3 part 2;thought c worth 0 part 3;"
        + "thought d worth 12 part 0;thought e worth 20 part 6;follows a a;follows b a;follows c a;follows d a;"
        + "follows e a;tenant p plain;tenant q plain;tenant r plain;tenant s plain;tenant u runner;tithe 2;runs 4;";

    public static void main(String[] args) {
        holders();
        lacks();
        givers();
        dowries();
        match();
        guesses();
        guessesByBoth();
        askTheFirst();
        rests();
        Check.finish();
    }

    /** Keeps a thought without a tithe: the gate counts nothing. */
    private static void keep(TithedThoughts t, int tenant, int thought) {
        Check.due("keep", t.think(tenant, thought), -2);
        t.gate(tenant);
    }

    private static void run(TithedThoughts t, int tenant) {
        t.think(tenant, 0);
        t.think(tenant, 4);
        Check.due("ran", t.tenant(tenant, 4), 1);
    }

    private static void holders() {
        TithedThoughts t = Check.told(ABBEY);
        keep(t, 0, 0);
        keep(t, 1, 1);
        keep(t, 1, 0);
        keep(t, 3, 3);
        run(t, 4);
        Check.due("part 1", t.holders(1), 1 | 2 | 16);
        Check.due("part 2", t.holders(2), 2);
        Check.due("part 3", t.holders(3), 0);
        Check.due("part 6, beyond the engine", t.holders(6), 16);
        Check.due("part 0", t.holders(0), -1);
        Check.due("part 7", t.holders(7), -1);
        t.pool(1, 1);
        Check.due("given away", t.holders(2), 0);
    }

    private static void lacks() {
        TithedThoughts t = Check.told(ABBEY + "engine 6;");
        Check.due("all", t.lacks(), 63);
        keep(t, 0, 1);
        keep(t, 0, 3);
        t.pool(0, 1);
        Check.due("but part 2", t.lacks(), 61);
        t.pool(0, 3);
        Check.due("part 0 is none", t.lacks(), 61);
        keep(t, 0, 4);
        t.pool(0, 4);
        Check.due("but 2 and 6", t.lacks(), 29);
        TithedThoughts one = Check.told(ABBEY + "engine 1;");
        Check.due("engine of one", one.lacks(), 1);
        keep(one, 0, 4);
        one.pool(0, 4);
        Check.due("6 is not of this engine", one.lacks(), 1);
    }

    private static void givers() {
        TithedThoughts t = Check.told(ABBEY);
        Check.due("by none", t.givers(), -1);
        keep(t, 3, 0);
        keep(t, 2, 1);
        keep(t, 1, 2);
        Check.due("three", t.givers(), 14);
        keep(t, 0, 1);
        Check.due("the least set of three", t.givers(), 11);
        keep(t, 3, 2);
        Check.due("two", t.givers(), 9);
        keep(t, 3, 1);
        Check.due("one", t.givers(), 8);
        t.pool(3, 1);
        Check.due("less is lacked", t.lacks(), 5);
        Check.due("one still", t.givers(), 8);
        t.pool(3, 0);
        t.pool(3, 2);
        Check.due("nothing is lacked", t.givers(), 0);
        TithedThoughts f = Check.told(ABBEY + "engine 2;");
        keep(f, 0, 0);
        keep(f, 1, 1);
        Check.due("two", f.givers(), 3);
        keep(f, 2, 0);
        keep(f, 2, 1);
        Check.due("fewer go ahead of the least set", f.givers(), 4);
        TithedThoughts r = Check.told(ABBEY + "engine 1;");
        run(r, 4);
        Check.due("who ran gives nothing", r.givers(), -1);
        Check.due("but holds", r.holders(1), 16);
    }

    private static void dowries() {
        TithedThoughts t = Check.told(ABBEY);
        Check.due("poorest at first", t.poorest(), 0);
        keep(t, 0, 0);
        keep(t, 0, 0);
        keep(t, 0, 3);
        keep(t, 1, 1);
        keep(t, 2, 1);
        keep(t, 3, 0);
        keep(t, 4, 2);
        Check.due("dowry 0", t.dowry(0), 20);
        Check.due("dowry 1", t.dowry(1), 3);
        Check.due("dowry 4", t.dowry(4), 0);
        Check.due("dowry 5", t.dowry(5), -1);
        Check.due("dowry -1", t.dowry(-1), -1);
        Check.due("poorest", t.poorest(), 4);
        run(t, 4);
        Check.due("dowry of who ran", t.dowry(4), 24);
        Check.due("poorest who did not run, the first", t.poorest(), 1);
        t.pool(0, 3);
        Check.due("given away", t.dowry(0), 8);
        TithedThoughts none = Check.told("thought a worth 20 part 1;follows a a;tenant p runner;tithe 2;");
        none.think(0, 0);
        none.think(0, 0);
        Check.due("nobody is left", none.poorest(), -1);
    }

    private static void pairs(TithedThoughts t, int most, int... with) {
        Check.due("match", t.match(-1), most);
        for (int i = 0; i < with.length; i++) {
            Check.due("match of " + i, t.match(i), with[i]);
        }
        Check.due("match of no tenant", t.match(with.length), -2);
        Check.due("match of no tenant", t.match(-2), -2);
    }

    private static void match() {
        TithedThoughts t = Check.told(ABBEY);
        pairs(t, 0, 0, 1, 2, 3, 4);
        keep(t, 1, 0);
        pairs(t, 0, 0, 1, 2, 3, 4);
        keep(t, 2, 0);
        pairs(t, 16, 0, 2, 1, 3, 4);
        keep(t, 3, 0);
        // 0, 4, 4, 4, 0: the row 0 1 3 2 4 is ahead of 0 2 1 3 4.
        pairs(t, 16, 0, 1, 3, 2, 4);
        keep(t, 0, 0);
        pairs(t, 32, 1, 0, 3, 2, 4);
        keep(t, 3, 3);
        keep(t, 1, 3);
        // 4, 16, 4, 16, 0
        pairs(t, 256 + 16, 2, 3, 0, 1, 4);
        run(t, 4);
        // 4, 16, 4, 16, 24: who ran is matched, too.
        pairs(t, 24 * 16 + 16 * 4, 0, 2, 1, 4, 3);
        TithedThoughts one = Check.told("thought a worth 20 part 1;tenant p plain;");
        one.think(0, 0);
        pairs(one, 0, 0);
    }

    private static final String FOLLOWS = "thought a worth 1 part 1;thought b worth 1 part 1;thought c worth 1 part 1;"
        + "thought d worth 1 part 1;";

    private static void guesses() {
        TithedThoughts t = Check.told(FOLLOWS + "follows a a;follows b a;follows a b;follows c b;follows d b;"
            + "follows a c;follows b c;follows a d;");
        Check.due("all fit", t.fits(), 15);
        // a follows all four: it parts nothing; b follows a and c: two and two.
        Check.due("ask b", t.ask(), 1);
        Check.no("no thought", t.guess(4, true));
        Check.no("no thought", t.guess(-1, false));
        Check.yes("may be followed by b", t.guess(1, true));
        Check.due("a and c", t.fits(), 5);
        Check.due("nothing parts a and c", t.ask(), -1);
        Check.yes("may not be followed by a", t.guess(0, false));
        Check.due("none fits", t.fits(), 0);
        Check.due("nothing to part", t.ask(), -1);
        for (int i = 2; i < 8; i++) {
            Check.yes("guess", t.guess(3, i % 2 == 0));
        }
        Check.due("eight", t.count(9), 8);
        Check.no("a ninth", t.guess(3, true));
        Check.due("eight still", t.count(9), 8);
    }

    private static void guessesByBoth() {
        TithedThoughts t = Check.told(FOLLOWS + "follows d a;follows c a;follows c b;follows c c;");
        Check.due("ask c: three and one; d: one and three", t.ask(), 2);
        Check.yes("not by d", t.guess(3, false));
        Check.due("b, c, d", t.fits(), 14);
        Check.due("ask c", t.ask(), 2);
        Check.yes("by c", t.guess(2, true));
        Check.due("b, c", t.fits(), 6);
        Check.due("none parts them", t.ask(), -1);
        t.mark(0, false);
        t.guess(2, false);
        Check.due("none", t.fits(), 0);
        t.mark(0, true);
        Check.due("b, c again", t.fits(), 6);
        TithedThoughts u = Check.told(FOLLOWS + "follows d a;follows c a;follows c b;follows c c;");
        u.mark(0, false);
        u.guess(3, true);
        u.mark(1, false);
        u.mark(0, true);
        u.guess(2, false);
        Check.due("d", u.fits(), 8);
        u.mark(1, true);
        Check.due("a", u.fits(), 1);
    }

    /** "if that is less than all; of equal ones the first" */
    private static void askTheFirst() {
        TithedThoughts t = Check.told(FOLLOWS + "follows a a;follows a b;follows b a;follows b b;follows c a;follows c b;");
        Check.due("a, b and c part them alike", t.ask(), 0);
        TithedThoughts last = Check.told(FOLLOWS + "follows a a;follows d a;follows d b;");
        Check.due("d: two and two; a: one and three", last.ask(), 3);
        TithedThoughts two = Check.told(Texts.thoughts(2) + "follows b b;");
        Check.due("one and one", two.ask(), 1);
        Check.yes("guess", two.guess(1, false));
        Check.due("a alone", two.fits(), 1);
        Check.due("one is not parted", two.ask(), -1);
    }

    private static void rest(int both, int loses, int gets, int... want) {
        TithedThoughts t = new TithedThoughts();
        String args = both + " " + loses + " " + gets;
        Check.due("rests " + args, t.rests(both, loses, gets, -1), want.length);
        for (int i = 0; i < want.length; i++) {
            Check.due("rests " + args + " " + i, t.rests(both, loses, gets, i), want[i]);
        }
        Check.none("rests " + args + " beyond", () -> t.rests(both, loses, gets, want.length));
        Check.none("rests " + args + " below", () -> t.rests(both, loses, gets, -2));
    }

    private static void rests() {
        rest(4, 3, 6, 0);
        rest(4, 3, 4, 0, 3);
        rest(4, 3, 3, 0, 3);
        rest(4, 0, 6, 0, 1, 2);
        rest(4, 0, 4, 0, 1, 2, 3);
        rest(4, 0, 3, 0, 3);
        rest(0, 0, 0, 0, 1, 2, 3);
        rest(9, 9, 9, 0, 3);
        TithedThoughts t = new TithedThoughts();
        int[] odd = {-1, 10};
        for (int i : odd) {
            Check.none("both " + i, () -> t.rests(i, 1, 1, -1));
            Check.none("loses " + i, () -> t.rests(1, i, 1, -1));
            Check.none("gets " + i, () -> t.rests(1, 1, i, -1));
        }
    }
}
