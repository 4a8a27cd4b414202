/** What comes of an E, by what a first thought gains, and by what is counted behind a gate. */
public final class LawTest {
    public static void main(String[] args) {
        values();
        facts();
        backFacts();
        wrap();
        Check.finish();
    }

    /** rich 9, piece 5, counted 1, barn 0. */
    private static void gain(String law, int want) {
        TithedThoughts t = Check.told("thought a worth 9 part 5;tenant p plain;gains " + law + ";");
        Check.due(law, t.think(0, 0), -2);
        Check.due(law, t.tenant(0, 3), want);
        Check.due("best by " + law, Check.told("thought a worth 9 part 5;tenant p plain;gains " + law + ";")
            .best(0, 1, -1), want);
    }

    private static void values() {
        gain("7", 7);
        gain("1+2*3", 7);
        gain("(1+2)*3", 9);
        gain("10-3-2", 5);
        gain("10-(3-2)", 9);
        gain("2*3*4", 24);
        gain("1<2", 1);
        gain("2<2", 0);
        gain("2=2", 1);
        gain("2=3", 0);
        gain("1+1<1+2", 1);
        gain("5-8", -3);
        gain("99", 99);
        gain("100", 99);
        gain("0-99", -99);
        gain("0-100", -99);
        gain("9999*2", 99);
        gain("not 0", 1);
        gain("not 5", 0);
        gain("not not 5", 1);
        gain("not 0*7", 7);
        gain("not(0*7)", 1);
        gain("not 1+5", 5);
        gain("3 and 4", 1);
        gain("3 and 0", 0);
        gain("0 or 4", 1);
        gain("0 or 0", 0);
        gain("(0-3) and (0-4)", 1);
        gain("1 or 0 and 0", 0);
        gain("0 and 0 or 1", 1);
        gain("1 or 1 and 0", 0);
        gain("(1<2)+(2<3)+(4=4)", 3);
        gain("1<2 and 2<3", 1);
        gain("2=1+1 or 0", 1);
        gain("((((6))))", 6);
        gain("not not not not 6", 1);
        gain("1+(2*(3+(4*(5)))-7)", 40);
    }

    private static void facts() {
        gain("rich", 9);
        gain("piece", 5);
        gain("counted", 1);
        gain("barn", 0);
        gain("rich*piece-counted", 44);
        TithedThoughts t = Check.told("thought a worth 1 part 2;follows a a;tenant p plain;tithe 3;"
            + "gains counted*10+barn;");
        t.think(0, 0);
        Check.due("with the first one", t.tenant(0, 3), 10);
        t.think(0, 0);
        Check.due("with the second one", t.tenant(0, 3), 30);
        t.think(0, 0);
        Check.due("the tithe gains nothing", t.tenant(0, 3), 30);
        t.think(0, 0);
        Check.due("one lies in the barn", t.tenant(0, 3), 41);
        t.pool(0, 0);
        t.pool(0, 0);
        t.think(0, 0);
        Check.due("three lie in the barn", t.tenant(0, 3), 64);
        TithedThoughts k = Check.told("thought a worth 1 part 2;thought b worth 2 part 2;follows b a;tenant k clever;"
            + "tithe 2;gains counted*10+barn;");
        k.think(0, 0);
        Check.due("a is the tithe", k.think(0, 1), 0);
        Check.due("the barn as it was ahead", k.tenant(0, 3), 30);
        TithedThoughts r = Check.told("thought a worth 20 part 2;follows a a;tenant r runner;tithe 2;"
            + "gains counted*10+barn;");
        r.think(0, 0);
        r.think(0, 0);
        Check.due("ran", r.tenant(0, 4), 1);
        Check.due("counted with this one", r.tenant(0, 3), 30);
    }

    private static void backFacts() {
        TithedThoughts t = Check.told("thought a worth 3 part 4;thought b worth 5 part 1;follows a a;follows b a;"
            + "tenant p plain;tithe 12;back (rich=3)*(piece=4)*2+(rich=5)*3+(rich=0)*(piece=0)*(counted-1)+barn;");
        for (int i = 0; i < 5; i++) {
            t.think(0, 0);
        }
        Check.yes("lay", t.mark(0, false));
        Check.due("a was last", t.gate(0), 2);
        Check.due("none was last", t.gate(0), 1);
        t.mark(0, true);
        t.think(0, 1);
        Check.due("b was last", t.gate(0), 3);
        t.mark(0, true);
        t.pool(0, 0);
        t.pool(0, 0);
        Check.due("a was last, two lie in the barn", t.gate(0), 4);
    }

    private static void wrap() {
        // As ints these are -1027349969, -1295567266 and -1195587265.
        gain("9999*9999*9999", -99);
        gain("9999*9999*9999<0", 1);
        gain("9999*9999*30<0", 1);
        gain("9999*9999*21+9999*9999*10", -99);
        gain("9999*9999*21", 99);
        gain("0-9999*9999*21-9999*9999*10", 99);
    }
}
