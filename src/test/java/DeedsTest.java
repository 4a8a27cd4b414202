/** Promises 5 to 11, 32, 33: how it is, thinking, going back, pooling, undoing, marks, counts. */
public final class DeedsTest {
    private static final String ALL = "thought a worth 4 part 1;thought b worth 2 part 2;thought c worth 2 part 0;"
        + "thought d worth 12 part 3;follows a a;follows b a;follows c a;follows d a;follows a b;follows b b;"
        + "follows c b;follows d b;follows a c;follows b c;follows c c;follows d c;follows a d;";
    private static final String FOUR = "tenant p plain;tenant s simple;tenant k clever;tenant r runner;";

    public static void main(String[] args) {
        told();
        plain();
        simple();
        clever();
        cleverLeast();
        cleverPooled();
        runner();
        gate();
        cleverGate();
        pool();
        undo();
        marks();
        wrong();
        Check.finish();
    }

    private static String abbey(String rest) {
        return ALL + rest;
    }

    private static void told() {
        TithedThoughts t = Check.told(abbey("tenant p plain;tenant s simple;tenant k clever;tenant r runner;"
            + "tenant q plain;tithe 3;runs 4;engine 6;"));
        int[][] thoughts = {{4, 1, 15, 0}, {2, 2, 15, 0}, {2, 0, 15, 0}, {12, 3, 1, 0}};
        for (int i = 0; i < 4; i++) {
            for (int what = 0; what < 4; what++) {
                Check.due("thought " + i + " " + what, t.thought(i, what), thoughts[i][what]);
            }
            Check.due("thought " + i + " -1", t.thought(i, -1), -1);
            Check.due("thought " + i + " 4", t.thought(i, 4), -1);
            Check.due("kind " + i, t.tenant(i, 0), i);
        }
        Check.due("thought -1", t.thought(-1, 0), -1);
        Check.due("thought 4", t.thought(4, 0), -1);
        Check.due("kind 4", t.tenant(4, 0), 0);
        Check.due("tenant -1", t.tenant(-1, 0), -1000);
        Check.due("tenant 5", t.tenant(5, 0), -1000);
        Check.due("tenant what -1", t.tenant(0, -1), -1000);
        Check.due("tenant what 6", t.tenant(0, 6), -1000);
        int[] counts = {4, 5, 3, 4, 6, 0, 0, 0, 0, 0, 0, 0};
        for (int i = 0; i < counts.length; i++) {
            Check.due("count " + i, t.count(i), counts[i]);
        }
        Check.due("count -1", t.count(-1), -1);
        Check.due("count 12", t.count(12), -1);
        Check.due("keeps of no tenant", t.keeps(5, 0), -1);
        Check.due("keeps of no tenant", t.keeps(-1, 0), -1);
        Check.due("keeps of no thought", t.keeps(0, 4), -1);
        Check.due("keeps of no thought", t.keeps(0, -1), -1);
        Check.due("keeps none", t.keeps(4, 3), 0);
    }

    private static void state(String when, TithedThoughts t, int tenant, int[] want) {
        for (int what = 1; what <= 5; what++) {
            Check.due(when + ": tenant " + tenant + " " + what, t.tenant(tenant, what), want[what - 1]);
        }
    }

    private static void plain() {
        TithedThoughts t = Check.told(abbey("tenant p plain;tithe 3;gains rich*10+counted+piece*100*0+barn*1000*0;"));
        state("new", t, 0, new int[] {-1, 0, 0, 0, 15});
        Check.due("first", t.think(0, 3), -2);
        // 12 * 10 + 1 is cut to 99.
        state("first", t, 0, new int[] {3, 1, 99, 0, 1});
        Check.due("b may not follow d", t.think(0, 1), -1);
        Check.due("second", t.think(0, 0), -2);
        state("second", t, 0, new int[] {0, 2, 99 + 42, 0, 15});
        Check.due("third is the tithe", t.think(0, 1), 1);
        state("third", t, 0, new int[] {1, 0, 141, 0, 15});
        Check.due("keeps d", t.keeps(0, 3), 1);
        Check.due("keeps a", t.keeps(0, 0), 1);
        Check.due("keeps no b", t.keeps(0, 1), 0);
        Check.due("b lies in the barn", t.thought(1, 3), 1);
        Check.due("one lies there", t.count(6), 1);
        Check.due("worth", t.count(7), 2);
        Check.due("next", t.think(0, 1), -2);
        state("next", t, 0, new int[] {1, 1, 162, 0, 15});
    }

    private static void simple() {
        TithedThoughts t = Check.told(abbey("tenant s simple;tithe 2;gains 10*counted+barn*3+1;"));
        Check.due("the very first", t.think(0, 3), 3);
        state("first", t, 0, new int[] {3, 0, 0, 0, 1});
        Check.due("keeps none", t.keeps(0, 3), 0);
        Check.due("second", t.think(0, 0), -2);
        state("second", t, 0, new int[] {0, 0, 4, 0, 15});
        Check.due("gate", t.gate(0), 0);
        Check.due("third is no first", t.think(0, 3), -2);
        state("third", t, 0, new int[] {3, 0, 8, 0, 1});
        Check.due("barn", t.count(6), 1);
    }

    private static void clever() {
        TithedThoughts t = Check.told(abbey("tenant k clever;tithe 3;"));
        Check.due("a", t.think(0, 0), -2);
        Check.due("b", t.think(0, 1), -2);
        Check.due("c is as little worth, b is the first", t.think(0, 2), 1);
        Check.due("keeps a", t.keeps(0, 0), 1);
        Check.due("keeps no b", t.keeps(0, 1), 0);
        Check.due("keeps c", t.keeps(0, 2), 1);
        state("tithed", t, 0, new int[] {2, 0, 8, 0, 15});
        Check.due("a", t.think(0, 0), -2);
        Check.due("d", t.think(0, 3), -2);
        Check.due("a is the tithe, nothing of what was counted ahead", t.think(0, 0), 0);
        Check.due("d", t.think(0, 3), -2);
        Check.due("a", t.think(0, 0), -2);
        Check.due("b is the tithe itself", t.think(0, 1), 1);
        state("tithed again", t, 0, new int[] {1, 0, 44, 0, 15});
        Check.due("keeps no b", t.keeps(0, 1), 0);
        Check.due("b in the barn", t.thought(1, 3), 2);
    }

    private static void cleverLeast() {
        TithedThoughts t = Check.told(abbey("tenant k clever;tithe 3;gains 7;"));
        t.think(0, 1);
        t.think(0, 0);
        Check.due("b again: the first b is the tithe", t.think(0, 1), 1);
        Check.due("the second b is kept", t.keeps(0, 1), 1);
        Check.due("and gained by", t.tenant(0, 3), 21);
    }

    private static void cleverPooled() {
        TithedThoughts t = Check.told(abbey("tenant k clever;tithe 3;"));
        t.think(0, 1);
        t.think(0, 0);
        Check.yes("pool b", t.pool(0, 1));
        Check.due("b is the tithe all the same", t.think(0, 0), 1);
        Check.due("keeps no b, and not less", t.keeps(0, 1), 0);
        Check.due("keeps a", t.keeps(0, 0), 2);
        Check.due("b lies there twice", t.thought(1, 3), 2);
        Check.due("gained stays", t.tenant(0, 3), 10);
    }

    private static void runner() {
        TithedThoughts t = Check.told(abbey("tenant r runner;tenant p plain;tithe 2;runs 4;"));
        Check.due("d, too rich, but not counted out", t.think(0, 3), -2);
        Check.due("a is not more than runs", t.think(0, 0), 0);
        state("tithed", t, 0, new int[] {0, 0, 12, 0, 15});
        Check.due("b", t.think(0, 1), -2);
        Check.due("d is run away with", t.think(0, 3), -2);
        state("ran", t, 0, new int[] {3, 0, 26, 1, 0});
        Check.due("keeps d", t.keeps(0, 3), 2);
        Check.due("ran", t.count(5), 1);
        Check.due("barn", t.count(6), 1);
        Check.due("no think", t.think(0, 0), -1);
        Check.due("no gate", t.gate(0), -1);
        Check.no("no pool", t.pool(0, 3));
        Check.yes("undo", t.undo());
        state("undone", t, 0, new int[] {1, 1, 14, 0, 15});
        Check.due("ran no more", t.count(5), 0);
        Check.due("a plain one does not run", t.think(1, 3), -2);
        Check.due("a plain one", t.think(1, 0), 0);
    }

    private static void gate() {
        TithedThoughts t = Check.told(abbey("tenant p plain;tithe 6;back counted-2+(rich=12)+(piece=2)*9;"));
        Check.due("nothing is counted", t.gate(0), 0);
        t.think(0, 0);
        t.think(0, 0);
        t.think(0, 3);
        state("three", t, 0, new int[] {3, 3, 20, 0, 1});
        Check.due("d was last", t.gate(0), 2);
        state("back", t, 0, new int[] {-1, 2, 20, 0, 15});
        Check.due("no last one", t.gate(0), 0);
        t.think(0, 1);
        Check.due("no more than it was", t.gate(0), 1);
        Check.due("no less than 0", t.gate(0), 0);
        Check.due("no gate", t.gate(1), -1);
        Check.due("no gate", t.gate(-1), -1);
        TithedThoughts u = Check.told(abbey("tenant p plain;"));
        u.think(0, 0);
        u.think(0, 0);
        Check.due("without back: 0", u.gate(0), 0);
    }

    private static void cleverGate() {
        TithedThoughts t = Check.told(abbey("tenant k clever;tithe 3;back 1;"));
        t.think(0, 1);
        t.think(0, 3);
        Check.due("the last one stays", t.gate(0), 1);
        t.think(0, 0);
        Check.due("of d, a, a the first a", t.think(0, 0), 0);
        Check.due("b is kept", t.keeps(0, 1), 1);
        Check.due("a is kept once", t.keeps(0, 0), 1);
        t.gate(0);
        t.think(0, 0);
        t.think(0, 2);
        Check.due("the last one stays", t.gate(0), 1);
        t.think(0, 1);
        Check.due("of c, b, d it is c", t.think(0, 3), 2);
        Check.due("b is kept still", t.keeps(0, 1), 2);
        Check.due("no c is", t.keeps(0, 2), 0);
    }

    private static void pool() {
        TithedThoughts t = Check.told(abbey("tenant p plain;tenant q plain;"));
        t.think(0, 0);
        t.think(0, 0);
        Check.no("keeps none", t.pool(0, 1));
        Check.no("another", t.pool(1, 0));
        Check.no("no tenant", t.pool(2, 0));
        Check.no("no tenant", t.pool(-1, 0));
        Check.no("no thought", t.pool(0, 4));
        Check.no("no thought", t.pool(0, -1));
        Check.yes("pool", t.pool(0, 0));
        Check.due("keeps", t.keeps(0, 0), 1);
        Check.due("barn", t.thought(0, 3), 1);
        Check.due("gained stays", t.tenant(0, 3), 8);
        Check.due("counted stays", t.tenant(0, 2), 2);
        Check.yes("pool", t.pool(0, 0));
        Check.no("pool", t.pool(0, 0));
        Check.due("count", t.count(6), 2);
        Check.due("worth", t.count(7), 8);
    }

    private static void undo() {
        TithedThoughts t = Check.told(abbey("tenant p plain;tithe 12;back counted;"));
        for (int i = 0; i < 9; i++) {
            t.think(0, i % 3);
        }
        t.gate(0);
        t.pool(0, 0);
        for (int i = 0; i < 7; i++) {
            t.gate(0);
        }
        t.think(0, 9);
        Check.due("sixteen", t.count(10), 16);
        for (int i = 0; i < 7; i++) {
            Check.yes("undo a gate", t.undo());
        }
        Check.due("pooled still", t.count(6), 1);
        Check.yes("undo pool", t.undo());
        Check.due("barn", t.count(6), 0);
        Check.due("keeps", t.keeps(0, 0), 3);
        Check.due("no last one", t.tenant(0, 1), -1);
        Check.yes("undo gate", t.undo());
        Check.due("last one", t.tenant(0, 1), 2);
        for (int i = 8; i > 1; i--) {
            Check.yes("undo think", t.undo());
            Check.due("counted", t.tenant(0, 2), i);
            Check.due("can be undone", t.count(10), i - 2);
        }
        Check.no("no more than sixteen", t.undo());
        Check.due("counted", t.tenant(0, 2), 2);
        t.think(0, 3);
        Check.due("one again", t.count(10), 1);
    }

    private static void marks() {
        TithedThoughts t = Check.told(abbey("tenant p plain;tithe 4;"));
        Check.no("nothing on it", t.mark(0, true));
        Check.no("none such", t.mark(-1, false));
        Check.no("none such", t.mark(4, false));
        Check.no("none such", t.mark(4, true));
        Check.no("none such", t.mark(-1, true));
        t.think(0, 0);
        t.guess(0, true);
        Check.years(t, "gate p;");
        Check.yes("lay 0", t.mark(0, false));
        Check.yes("lay 3", t.mark(3, false));
        Check.due("undo stays", t.count(10), 1);
        t.think(0, 3);
        t.guess(1, true);
        Check.years(t, "gate p;think p a;");
        Check.yes("lay 3 again", t.mark(3, false));
        Check.yes("back to 0", t.mark(0, true));
        Check.due("counted", t.tenant(0, 2), 1);
        Check.due("last", t.tenant(0, 1), 0);
        Check.due("guesses", t.count(9), 1);
        Check.due("years", t.count(8), 1);
        Check.due("nothing to undo", t.count(10), 0);
        Check.no("undo", t.undo());
        Check.yes("back to 3", t.mark(3, true));
        Check.due("counted", t.tenant(0, 2), 2);
        Check.due("guesses", t.count(9), 2);
        Check.due("years", t.count(8), 2);
        t.think(0, 0);
        Check.yes("back to 3 again", t.mark(3, true));
        Check.due("counted", t.tenant(0, 2), 2);
        Check.no("1 was never laid", t.mark(1, true));
        Check.no("2 was never laid", t.mark(2, true));
    }

    private static void wrong() {
        TithedThoughts t = Check.told(abbey(FOUR));
        int[] odd = {-1, 9, Integer.MIN_VALUE, Integer.MAX_VALUE};
        for (int i : odd) {
            Check.due("think of none", t.think(i, 0), -1);
            Check.due("think none", t.think(0, i), -1);
            Check.due("gate of none", t.gate(i), -1);
            Check.no("pool of none", t.pool(i, 0));
            Check.no("pool none", t.pool(0, i));
            Check.due("thought", t.thought(i, 0), -1);
            Check.due("tenant", t.tenant(i, 0), -1000);
        }
        Check.due("nothing can be undone", t.count(10), 0);
    }
}
