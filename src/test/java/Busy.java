/** An object with all that can be lying ahead: deeds to be undone, marks on 0 and 2, years, guesses, one who ran. */
final class Busy {
    static final String ABBEY = "thought a worth 4 part 1;thought b worth 2 part 2;thought c worth 2 part 0;"
        + "thought d worth 12 part 3;" + Texts.behind('a', "abcd") + Texts.behind('b', "abc") + Texts.behind('c', "ab")
        + Texts.behind('d', "a") + "tenant p plain;tenant s simple;tenant k clever;tenant r runner;tenant q plain;"
        + "tithe 3;engine 4;back counted-1;gains rich+counted-barn;";
    private static final int[][] ROW = {{0, 0}, {0, 1}, {1, 3}, {2, 1}, {3, 0}, {3, 0}, {3, 3}, {4, 2}};

    private Busy() {
    }

    static TithedThoughts make() {
        TithedThoughts t = new TithedThoughts();
        Check.abbey(t, ABBEY);
        t.mark(2, false);
        for (int[] one : ROW) {
            t.think(one[0], one[1]);
        }
        t.guess(2, true);
        Check.years(t, "think p a;gate s;think s b;pool p a;think p d;think p b;");
        t.mark(0, false);
        t.think(2, 2);
        t.pool(0, 0);
        t.gate(4);
        t.guess(1, false);
        return t;
    }
}
