/** Promises 12, 30, 31: the years judged, other tithes, years by draws. */
public final class YearsTest {
    private static final String ABBEY = "thought a worth 4 part 1;thought b worth 2 part 2;thought d worth 12 part 3;"
        + "follows a a;follows b a;follows d a;follows a b;follows b b;follows d b;follows a d;"
        + "tenant p plain;tenant s simple;tenant k clever;tenant r runner;tithe 3;";

    public static void main(String[] args) {
        judged();
        leftOut();
        ran();
        fromTheBeginning();
        pooledInYears();
        other();
        lives();
        livesByHand();
        Check.finish();
    }

    private static void judge(TithedThoughts t, int first, int second, int third) {
        Check.due("judged 0", t.judged(0), first);
        Check.due("judged 1", t.judged(1), second);
        Check.due("judged 2", t.judged(2), third);
    }

    private static void judged() {
        TithedThoughts t = Check.told(ABBEY);
        judge(t, -1, -1, 0);
        Check.none("judged -1", () -> t.judged(-1));
        Check.none("judged 3", () -> t.judged(3));
        Check.due("years", Check.years(t, "think p a;think p b;gate p;think p b;"), 0);
        judge(t, -1, -1, 8);
        Check.due("years", Check.years(t, "think p a;think p b;think p b;think p d;"), 0);
        judge(t, -1, 2, 18);
        Check.due("years", Check.years(t, "gate s;think s d;"), 0);
        judge(t, -1, 1, 0);
        Check.due("years", Check.years(t, "think p a;pool p a;"), 0);
        judge(t, -1, -1, 4);
        Check.due("nothing was done", t.count(6) + t.tenant(0, 3) + t.count(10), 0);
    }

    private static void leftOut() {
        TithedThoughts t = Check.told(ABBEY);
        // b may not follow d; it is left out, so that d is still the last one and a is the second.
        Check.due("years", Check.years(t, "think p d;think p b;pool p b;think p a;think p a;"), 0);
        judge(t, 1, 4, 16);
        Check.due("years", Check.years(t, "pool p a;"), 0);
        judge(t, 0, -1, 0);
    }

    private static void ran() {
        TithedThoughts t = Check.told(ABBEY);
        Check.due("years", Check.years(t, "think r a;think r b;think r d;gate r;pool r a;think r a;think s a;"), 0);
        judge(t, 3, 2, 18);
        Check.due("nobody ran by that", t.count(5), 0);
        Check.due("the tithe of the simple one", t.other(3), 1);
    }

    private static void fromTheBeginning() {
        TithedThoughts t = Check.told(ABBEY);
        t.think(0, 0);
        t.think(0, 2);
        t.think(1, 2);
        Check.due("years", Check.years(t, "think p b;think s a;"), 0);
        judge(t, -1, 1, 2);
        Check.due("how it is stays", t.tenant(0, 1), 2);
        Check.due("lines", t.count(8), 2);
    }

    /** Pooling in years gives, and the barn that it fills counts in what comes behind it. */
    private static void pooledInYears() {
        TithedThoughts t = Check.told(ABBEY + "gains rich+10*barn;");
        Check.due("years", Check.years(t, "think p a;pool p a;pool p a;think p b;"), 0);
        judge(t, 2, -1, 4 + 12);
        Check.due("years", Check.years(t, "think s a;think p b;think k b;pool k b;think r b;"), 0);
        judge(t, -1, 0, 12 + 12 + 22);
    }

    private static void other() {
        TithedThoughts t = Check.told(ABBEY + "back counted;");
        Check.due("other 1", t.other(1), -1);
        Check.due("other 13", t.other(13), -1);
        Check.due("no years", t.other(2), 0);
        StringBuilder s = new StringBuilder();
        for (int i = 0; i < 12; i++) {
            s.append("think p b;");
        }
        Check.due("years", Check.years(t, s + "think s b;gate p;think r a;think r d;think r a;"), 0);
        // Twelve of p, one of s, and r runs by 2, gives by 3.
        int[] want = {0, 0, 6 + 1, 4 + 1 + 1, 3 + 1, 2 + 1, 2 + 1, 1 + 1, 1 + 1, 1 + 1, 1 + 1, 1 + 1, 1 + 1};
        for (int tithe = 2; tithe <= 12; tithe++) {
            Check.due("other " + tithe, t.other(tithe), want[tithe]);
        }
        Check.due("the tithe stays", t.count(2), 3);
    }

    private static void lives() {
        TithedThoughts t = Check.told(ABBEY);
        for (int what = 0; what < 3; what++) {
            int w = what;
            Check.none("seed -1", () -> t.lives(-1, 1, w));
            Check.none("seed 10000", () -> t.lives(10000, 1, w));
            Check.none("no steps", () -> t.lives(0, 0, w));
            Check.none("100 steps", () -> t.lives(0, 100, w));
            t.lives(0, 1, w);
            t.lives(9999, 99, w);
        }
        Check.none("what -1", () -> t.lives(0, 1, -1));
        Check.none("what 3", () -> t.lives(0, 1, 3));
        Check.due("all is as ahead", t.count(6) + t.count(5) + t.count(10) + t.tenant(0, 3), 0);
        TithedThoughts none = Check.told("tenant p plain;");
        Check.due("no thoughts", none.lives(5, 50, 0), 0);
        Check.due("no thoughts", none.lives(5, 50, 2), 0);
        TithedThoughts nobody = Check.told("thought a worth 5 part 1;follows a a;tithe 2;");
        Check.due("nobody", nobody.lives(5, 50, 0), 0);
        Check.none("nobody, wrong seed", () -> nobody.lives(-5, 50, 0));
    }

    private static long g;

    private static int draw(int m) {
        g = (g * 1103515245L + 12345) & 0x7fffffffL;
        return (int) ((g >> 16) % m);
    }

    /** The same draws, thought by hand on the same abbey, from the same state. */
    private static void livesByHand() {
        TithedThoughts t = Check.told(ABBEY + "gains rich-counted+barn;back counted-1;");
        TithedThoughts hand = Check.told(ABBEY + "gains rich-counted+barn;back counted-1;");
        for (int i = 0; i < 3; i++) {
            t.think(3, i % 2);
            hand.think(3, i % 2);
        }
        hand.mark(0, false);
        for (int seed = 0; seed < 5; seed++) {
            int before = hand.tenant(0, 3) + hand.tenant(1, 3) + hand.tenant(2, 3) + hand.tenant(3, 3);
            int tithes = 0;
            g = seed * 2499;
            for (int i = 0; i < 60; i++) {
                int who = draw(4);
                int what = draw(3);
                int came = hand.think(who, what);
                tithes += came >= 0 ? 1 : 0;
                if (came == -1) {
                    hand.gate(who);
                }
            }
            int gained = hand.tenant(0, 3) + hand.tenant(1, 3) + hand.tenant(2, 3) + hand.tenant(3, 3) - before;
            Check.due("tithes by " + seed, t.lives(seed * 2499, 60, 0), tithes);
            Check.due("ran by " + seed, t.lives(seed * 2499, 60, 1), hand.count(5));
            Check.due("gained by " + seed, t.lives(seed * 2499, 60, 2), gained);
            hand.mark(0, true);
        }
    }
}
