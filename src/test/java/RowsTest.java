/** Promises 13 to 16, 26 to 28: best rows, tithed, ways, safe, chance, dead, ring. */
public final class RowsTest {
    private static final String LINE = "thought a worth 1 part 0;thought b worth 5 part 0;thought c worth 9 part 0;"
        + "thought d worth 9 part 0;follows b a;follows c b;follows d b;follows a c;";

    public static void main(String[] args) {
        best();
        bestOfKinds();
        bestOfAClever();
        bestWithNothingCounted();
        bestOfASimple();
        bestOfEqualOnes();
        bestBarn();
        tithed();
        ways();
        safe();
        chance();
        deadAndRing();
        Check.finish();
    }

    private static void row(TithedThoughts t, int tenant, int many, int gain, int... thoughts) {
        Check.due("best of " + many, t.best(tenant, many, -1), gain);
        for (int i = 0; i < many; i++) {
            Check.due("best of " + many + " at " + i, t.best(tenant, many, i), thoughts[i]);
        }
        Check.none("best beyond", () -> t.best(tenant, many, many));
        Check.none("best below", () -> t.best(tenant, many, -2));
    }

    private static void best() {
        TithedThoughts t = Check.told(LINE + "tenant p plain;tithe 12;");
        row(t, 0, 1, 9, 2);
        row(t, 0, 2, 14, 1, 2);
        row(t, 0, 3, 15, 0, 1, 2);
        row(t, 0, 4, 24, 2, 0, 1, 2);
        row(t, 0, 5, 29, 1, 2, 0, 1, 2);
        Check.none("no thoughts", () -> t.best(0, 0, -1));
        Check.none("six", () -> t.best(0, 6, -1));
        Check.none("no tenant", () -> t.best(1, 1, -1));
        Check.none("no tenant", () -> t.best(-1, 1, -1));
        Check.due("nothing was thought", t.tenant(0, 1), -1);
        t.think(0, 1);
        row(t, 0, 1, 9, 2);
        row(t, 0, 4, 24, 2, 0, 1, 2);
        t.think(0, 3);
        Check.none("behind a dead one", () -> t.best(0, 1, -1));
        TithedThoughts minus = Check.told(LINE + "tenant p plain;gains 0-rich;");
        row(minus, 0, 1, -1, 0);
        row(minus, 0, 2, -6, 0, 1);
        TithedThoughts one = Check.told("thought a worth 1 part 0;tenant p plain;");
        Check.none("no row of two", () -> one.best(0, 2, -1));
        row(one, 0, 1, 1, 0);
    }

    private static void bestOfKinds() {
        String all = "thought a worth 1 part 0;thought b worth 6 part 0;thought c worth 8 part 0;follows a a;"
            + "follows b a;follows c a;follows a b;follows b b;follows c b;follows a c;follows b c;follows c c;"
            + "tenant p plain;tenant s simple;tenant k clever;tenant r runner;tithe 3;runs 6;gains rich+barn;";
        TithedThoughts t = Check.told(all);
        row(t, 0, 3, 16, 2, 2, 0);
        row(t, 0, 4, 25, 2, 2, 0, 2);
        row(t, 1, 1, 0, 0);
        row(t, 1, 2, 9, 0, 2);
        row(t, 2, 3, 24, 2, 2, 2);
        row(t, 2, 4, 33, 2, 2, 2, 2);
        row(t, 3, 3, 24, 2, 2, 2);
        // Who ran can think no more, so that the third is not c.
        row(t, 3, 4, 25, 2, 2, 0, 2);
        t.think(1, 2);
        row(t, 1, 2, 18, 2, 2);
        t.think(2, 0);
        t.think(2, 0);
        // The tithe is a; what comes then is kept.
        row(t, 2, 1, 9, 2);
        t.think(3, 0);
        t.think(3, 0);
        t.think(3, 2);
        Check.due("ran", t.tenant(3, 4), 1);
        Check.none("who ran", () -> t.best(3, 1, -1));
        TithedThoughts k = Check.told(all);
        k.think(2, 1);
        k.think(2, 1);
        // a would be the tithe itself and gain nothing.
        row(k, 2, 2, 8 + 9, 2, 2);
        TithedThoughts edge = Check.told(all.replace("runs 6", "runs 8"));
        // c is not more than runs: the tithe gains nothing, whichever it is.
        row(edge, 3, 3, 16, 2, 2, 0);
        TithedThoughts chain = Check.told("thought a worth 1 part 0;thought b worth 9 part 0;thought c worth 8 part 0;"
            + "thought d worth 7 part 0;follows b a;follows c b;follows d c;tenant k clever;tithe 2;");
        // a is the first tithe; d is the second one itself, whatever was counted ahead of the first.
        row(chain, 0, 4, 18, 0, 1, 2, 3);
    }

    /** What is counted already may be the tithe, and what is gained then is by worth alone, 20 being the most. */
    private static void bestOfAClever() {
        String text = "thought a worth 20 part 0;thought b worth 19 part 0;thought c worth 1 part 0;"
            + "follows b a;follows a b;follows c a;follows a c;follows a a;tenant k clever;tithe 2;";
        TithedThoughts t = Check.told(text);
        // Behind a, 20, the next one is the tithe itself if it is less; of a and a the first one is.
        row(t, 0, 2, 40, 0, 0);
        t.think(0, 1);
        // b is the tithe, and a is kept.
        row(t, 0, 1, 20, 0);
        row(t, 0, 3, 60, 0, 0, 0);
        TithedThoughts less = Check.told(text.replace("follows a a;", ""));
        // a b: the tithe is b itself; b a: b is, and both have gained.
        row(less, 0, 2, 39, 1, 0);
        row(less, 0, 4, 78, 1, 0, 1, 0);
        less.think(0, 0);
        row(less, 0, 1, 0, 1);
        // b is the tithe itself, and again behind a: nothing of what was counted ahead of a tithe counts any more.
        row(less, 0, 3, 20, 1, 0, 1);
        less.think(0, 2);
        row(less, 0, 1, 20, 0);
        row(less, 0, 2, 20, 0, 1);
    }

    /** While nothing is counted no thought is the least one, the first told neither. */
    private static void bestWithNothingCounted() {
        TithedThoughts t = Check.told("thought a worth 1 part 0;thought b worth 5 part 0;thought c worth 3 part 0;"
            + "follows c b;tenant k clever;tithe 2;");
        // Of b and c the tithe is c itself.
        row(t, 0, 2, 5, 1, 2);
    }

    /** None is counted of him: counted is 0 in each gain. */
    private static void bestOfASimple() {
        TithedThoughts t = Check.told("thought a worth 3 part 0;follows a a;tenant s simple;tithe 2;"
            + "gains counted*50+rich+barn;");
        row(t, 0, 1, 0, 0);
        row(t, 0, 3, 8, 0, 0, 0);
        t.think(0, 0);
        row(t, 0, 5, 20, 0, 0, 0, 0, 0);
    }

    /** "of equal ones the first (by numbers)": of rows the one whose first different thought has the least number. */
    private static void bestOfEqualOnes() {
        TithedThoughts t = Check.told(Texts.thoughts(3) + Texts.allFollow("abc") + "tenant p plain;tithe 12;gains 5;");
        for (int many = 1; many <= 5; many++) {
            row(t, 0, many, 5 * many, 0, 0, 0, 0, 0);
        }
        TithedThoughts u = Check.told(Texts.thoughts(4) + "follows d a;follows c b;follows b c;follows a d;"
            + "tenant p plain;gains rich+5*(rich=1)+(rich=2);");
        // a d and d a, b c and c b are alike: 6 + 4 and 3 + 3.
        row(u, 0, 2, 10, 0, 3);
        row(u, 0, 3, 16, 0, 3, 0);
    }

    /** A tithe of the row lies in the barn when the next one gains. */
    private static void bestBarn() {
        TithedThoughts t = Check.told("thought a worth 1 part 0;follows a a;tenant p plain;tenant r runner;tithe 2;"
            + "runs 0;gains 10*barn+counted;");
        row(t, 0, 5, 1 + 0 + 11 + 0 + 21, 0, 0, 0, 0, 0);
        // Who runs by the second one has no row of three.
        row(t, 1, 2, 1 + 2, 0, 0);
        Check.none("no row of three", () -> t.best(1, 3, -1));
    }

    private static void tithed() {
        TithedThoughts t = Check.told(LINE + "tenant p plain;tenant s simple;tenant k clever;tenant r runner;"
            + "tithe 3;runs 5;");
        int[] fresh = {3, 3, 3, 3};
        for (int tenant = 0; tenant < 4; tenant++) {
            for (int i = 0; i < 4; i++) {
                Check.due("tithed " + tenant + " " + i, t.tithed(tenant, i), fresh[i]);
            }
        }
        t.think(0, 0);
        // b c | a b c | a ..: the third tithe of each round is the same one.
        Check.due("c by two", t.tithed(0, 2), 2);
        Check.due("d by two", t.tithed(0, 3), 2);
        Check.due("a never", t.tithed(0, 0), -1);
        Check.due("b never", t.tithed(0, 1), -1);
        t.think(0, 1);
        Check.due("c by one", t.tithed(0, 2), 1);
        Check.due("no tenant", t.tithed(4, 0), -1);
        Check.due("no tenant", t.tithed(-1, 0), -1);
        Check.due("no thought", t.tithed(0, 4), -1);
        Check.due("no thought", t.tithed(0, -1), -1);
        t.think(1, 0);
        Check.due("a simple one as if plain", t.tithed(1, 0), 3);
        t.think(3, 0);
        t.think(3, 1);
        t.think(3, 2);
        Check.due("who ran", t.tithed(3, 1), -1);
        StringBuilder s = new StringBuilder();
        for (int i = 0; i < 7; i++) {
            s.append("thought t").append((char) ('a' + i)).append(" worth 1 part 1;");
        }
        for (int i = 0; i < 7; i++) {
            s.append("follows t").append((char) ('a' + (i + 1) % 7)).append(" t").append((char) ('a' + i)).append(';');
        }
        TithedThoughts ring = Check.told(s + "tenant p plain;tithe 12;");
        ring.think(0, 0);
        // Counted 1; tithes are 11, 23 and 35 away: 11, 23, 35 modulo 7 are 4, 2, 0.
        int[] want = {35, -1, 23, -1, 11, -1, -1};
        for (int i = 0; i < 7; i++) {
            Check.due("in a ring " + i, ring.tithed(0, i), want[i]);
        }
        for (int i = 1; i < 12; i++) {
            ring.think(0, i % 7);
        }
        // Nothing is counted, te was last: 12, 24 and 36 modulo 7 are 5, 3, 1.
        int[] then = {24, -1, 12, -1, -1, 36, -1};
        for (int i = 0; i < 7; i++) {
            Check.due("in a ring, by 36 " + i, ring.tithed(0, i), then[i]);
        }
        for (int i = 12; i < 23; i++) {
            ring.think(0, i % 7);
        }
        // Eleven are counted, tb was last: 1, 13 and 25, but not 37, modulo 7 are 1, 6, 4 (and 2).
        int[] late = {13, -1, 1, -1, -1, 25, -1};
        for (int i = 0; i < 7; i++) {
            Check.due("in a ring, not by 37 " + i, ring.tithed(0, i), late[i]);
        }
        TithedThoughts fresh36 = Check.told("thought a worth 1 part 1;follows a a;tenant p plain;tithe 12;");
        Check.due("by twelve", fresh36.tithed(0, 0), 12);
    }

    private static void ways() {
        TithedThoughts t = Check.told("thought a worth 20 part 1;thought b worth 1 part 1;follows a a;follows b a;"
            + "follows a b;tenant p plain;tenant r runner;tithe 2;");
        int[] toA = {1, 2, 3, 5, 8, 13, 21, 34, 55};
        for (int many = 1; many <= 9; many++) {
            Check.due("ways to a by " + many, t.ways(0, 0, many), toA[many - 1]);
        }
        Check.due("by 0", t.ways(0, 0, 0), -1);
        Check.due("by 10", t.ways(0, 0, 10), -1);
        Check.due("no tenant", t.ways(2, 0, 1), -1);
        Check.due("no thought", t.ways(0, 2, 1), -1);
        t.think(0, 1);
        Check.due("b behind b", t.ways(0, 1, 1), 0);
        Check.due("a behind b", t.ways(0, 0, 1), 1);
        t.think(1, 1);
        t.think(1, 0);
        Check.due("ran", t.count(5), 2);
        Check.due("who ran, as if not", t.ways(1, 0, 2), 2);
        StringBuilder s = new StringBuilder();
        for (char i = 'a'; i < 'i'; i++) {
            s.append("thought ").append(i).append(" worth 1 part 1;");
        }
        TithedThoughts full = new TithedThoughts();
        StringBuilder f = new StringBuilder();
        for (char i = 'a'; i < 'i'; i++) {
            for (char k = 'a'; k < 'e'; k++) {
                f.append("follows ").append(i).append(' ').append(k).append(';');
            }
        }
        Check.due("full", Check.abbey(full, s + f.toString() + "tenant p plain;"), 0);
        // Four to the eighth: all but the last are a to d, which alone may be followed.
        Check.due("most ways", full.ways(0, 7, 9), 65536);
    }

    private static void safe() {
        TithedThoughts t = Check.told(LINE + "tenant p plain;tenant s simple;tenant k clever;tenant r runner;"
            + "tithe 2;runs 5;");
        int[] fresh = {15, 0, 15, 15};
        for (int i = 0; i < 4; i++) {
            Check.due("safe " + i, t.safe(i), fresh[i]);
            t.think(i, 1);
        }
        int[] then = {0, 12, 0, 0};
        for (int i = 0; i < 4; i++) {
            Check.due("safe then " + i, t.safe(i), then[i]);
            t.think(i, 2);
        }
        int[] last = {1, 1, 1, 0};
        for (int i = 0; i < 4; i++) {
            Check.due("safe at last " + i, t.safe(i), last[i]);
        }
        Check.due("safe -1", t.safe(-1), -1);
        Check.due("safe 4", t.safe(4), -1);
    }

    private static void chance() {
        TithedThoughts t = Check.told(LINE + "tenant p plain;tenant s simple;tenant r runner;tithe 3;runs 5;");
        // 250000 each; a 250000 from c, b 250000 from a, c and d 125000 each from b; then again.
        int[] want = {125000, 250000, 125000, 125000};
        for (int i = 0; i < 4; i++) {
            Check.due("chance " + i, t.chance(0, i), want[i]);
            Check.due("chance of a simple one " + i, t.chance(1, i), want[i]);
        }
        t.think(0, 0);
        Check.due("c by two", t.chance(0, 2), 500000);
        Check.due("a not", t.chance(0, 0), 0);
        t.think(0, 1);
        Check.due("d by one", t.chance(0, 3), 500000);
        t.think(0, 3);
        Check.due("behind a dead one", t.chance(0, 0), 0);
        t.think(1, 2);
        Check.due("of a simple one nothing is counted", t.chance(1, 2), 500000);
        t.think(2, 0);
        t.think(2, 1);
        t.think(2, 2);
        Check.due("who ran", t.chance(2, 0), -1);
        Check.due("no tenant", t.chance(3, 0), -1);
        Check.due("no thought", t.chance(0, 4), -1);
        TithedThoughts cut = Check.told("thought a worth 1 part 1;thought b worth 1 part 1;thought c worth 1 part 1;"
            + "follows a a;follows b a;follows c a;follows a b;tenant p plain;tithe 2;");
        // 333333 each; a 111111 from a and 333333 from b; what c has is lost.
        Check.due("cut", cut.chance(0, 0), 444444);
        Check.due("cut", cut.chance(0, 1), 111111);
        TithedThoughts sure = Check.told("thought a worth 1 part 1;follows a a;tenant p plain;tithe 12;");
        Check.due("sure", sure.chance(0, 0), 1000000);
    }

    private static void deadAndRing() {
        TithedThoughts t = Check.told(LINE);
        Check.due("dead", t.dead(), 8);
        Check.due("ring a", t.ring(0), 3);
        Check.due("ring b", t.ring(1), 3);
        Check.due("ring c", t.ring(2), 3);
        Check.due("ring d", t.ring(3), -1);
        Check.due("ring 4", t.ring(4), -1);
        Check.due("ring -1", t.ring(-1), -1);
        StringBuilder s = new StringBuilder();
        for (int i = 0; i < 8; i++) {
            s.append("thought ").append((char) ('a' + i)).append(" worth 1 part 1;");
        }
        for (int i = 0; i < 8; i++) {
            s.append("follows ").append((char) ('a' + (i + 1) % 8)).append(' ').append((char) ('a' + i)).append(';');
        }
        TithedThoughts ring = Check.told(s + "follows c c;");
        Check.due("ring of eight", ring.ring(0), 8);
        Check.due("ring of one", ring.ring(2), 1);
        Check.due("none is dead", ring.dead(), 0);
        Check.due("all are dead", Check.told("thought a worth 1 part 1;thought b worth 1 part 1;").dead(), 3);
    }
}
