import java.util.function.ToIntFunction;

/** Too small and too large: each number and each argument at, below and beyond the edges that the document names. */
public final class SmallLargeTest {
    private static final int LEAST = Integer.MIN_VALUE;
    private static final int MOST = Integer.MAX_VALUE;
    private static final String THREE = Texts.thoughts(3) + Texts.allFollow("abc");
    private static final String ABBEY = THREE + "tenant p plain;tenant s simple;tithe 2;";

    public static void main(String[] args) {
        worth();
        part();
        tithe();
        runs();
        engine();
        thoughtWhat();
        tenantWhat();
        countWhat();
        judgedWhat();
        bestMany();
        bestWhat();
        tithedAtMost36();
        tithedAtLeastOne();
        waysMany();
        holdersPart();
        restsStakes();
        restsWhat();
        otherTithe();
        livesSeed();
        livesSteps();
        livesWhat();
        markNumber();
        ringAtMost8();
        noTenant();
        noThought();
        Check.finish();
    }

    // ---- numbers in an ABBEY

    private static void edges(String ahead, String behind, int low, int high, ToIntFunction<TithedThoughts> seen) {
        for (int n : new int[] {low, low + 1, high - 1, high}) {
            Check.due(ahead + n, seen.applyAsInt(Check.told(ahead + n + behind)), n);
        }
        for (int n : new int[] {low - 1, high + 1, 99, 100, 999, 9999}) {
            if (n >= 0) {
                TithedThoughts t = new TithedThoughts();
                Check.due(ahead + n, Check.abbey(t, ahead + n + behind), 4 + 16 * ahead.length());
            }
        }
    }

    /** "worth 0 to 20" */
    private static void worth() {
        edges("thought a worth ", " part 0;", 0, 20, t -> t.thought(0, 0));
    }

    /** "part 0 (none) to 6" */
    private static void part() {
        edges("thought a worth 20 part ", ";", 0, 6, t -> t.thought(0, 1));
    }

    /** "tithe 2 to 12 (10)" */
    private static void tithe() {
        edges("tithe ", ";", 2, 12, t -> t.count(2));
        Check.due("tithe 0", Check.abbey(new TithedThoughts(), "tithe 0;"), 4 + 16 * 6);
        Check.due("untold", Check.told("").count(2), 10);
    }

    /** "runs 0 to 20 (10)" */
    private static void runs() {
        edges("runs ", ";", 0, 20, t -> t.count(3));
        Check.due("untold", Check.told("").count(3), 10);
    }

    /** "engine 1 to 6 parts (3)" */
    private static void engine() {
        edges("engine ", ";", 1, 6, t -> t.count(4));
        Check.due("untold", Check.told("").count(4), 3);
    }

    // ---- what is asked for

    private static void thoughtWhat() {
        TithedThoughts t = Check.told(ABBEY);
        int[] want = {2, 1, 7, 0};
        for (int what = 0; what < 4; what++) {
            Check.due("thought what " + what, t.thought(1, what), want[what]);
        }
        for (int what : new int[] {LEAST, -2, -1, 4, 5, MOST}) {
            Check.due("thought what " + what, t.thought(1, what), -1);
        }
    }

    private static void tenantWhat() {
        TithedThoughts t = Check.told(ABBEY);
        int[] want = {1, -1, 0, 0, 0, 7};
        for (int what = 0; what < 6; what++) {
            Check.due("tenant what " + what, t.tenant(1, what), want[what]);
        }
        for (int what : new int[] {LEAST, -2, -1, 6, 7, MOST}) {
            Check.due("tenant what " + what, t.tenant(1, what), -1000);
        }
    }

    private static void countWhat() {
        TithedThoughts t = Check.told(ABBEY);
        int[] want = {3, 2, 2, 10, 3, 0, 0, 0, 0, 0, 0, 0};
        for (int what = 0; what < 12; what++) {
            Check.due("count " + what, t.count(what), want[what]);
        }
        for (int what : new int[] {LEAST, -2, -1, 12, 13, MOST}) {
            Check.due("count " + what, t.count(what), -1);
        }
    }

    private static void judgedWhat() {
        TithedThoughts t = Check.told(ABBEY);
        Check.due("judged 0", t.judged(0), -1);
        Check.due("judged 1", t.judged(1), -1);
        Check.due("judged 2", t.judged(2), 0);
        for (int what : new int[] {LEAST, -2, -1, 3, 4, MOST}) {
            Check.none("judged " + what, () -> t.judged(what));
        }
    }

    // ---- rows

    /** "for so many THOUGHTS (1 to 5)" */
    private static void bestMany() {
        TithedThoughts t = Check.told(THREE + "tenant p plain;");
        Check.due("best of 1", t.best(0, 1, -1), 3);
        Check.due("best of 5", t.best(0, 5, -1), 15);
        for (int many : new int[] {LEAST, -1, 0, 6, 7, MOST}) {
            for (int what = -1; what < 2; what++) {
                int w = what;
                Check.none("best of " + many + ", " + w, () -> t.best(0, many, w));
            }
        }
    }

    /** "what NONE: how much; i: the i-th THOUGHT .. no i-th one" */
    private static void bestWhat() {
        TithedThoughts t = Check.told(THREE + "tenant p plain;");
        for (int many = 1; many <= 5; many++) {
            int m = many;
            Check.due("the last of " + m, t.best(0, m, m - 1), 2);
            for (int what : new int[] {LEAST, -3, -2, m, m + 1, 5, MOST}) {
                Check.none("best of " + m + ", " + what, () -> t.best(0, m, what));
            }
        }
    }

    /** "by how many THOUGHTS, at least, one can be the TITHE (1 to 36)", "not by 36" */
    private static void tithedAtMost36() {
        TithedThoughts t = Check.told(Texts.thoughts(8) + Texts.ring("abcdefgh") + "tenant p plain;tithe 9;");
        for (int i = 0; i < 9; i++) {
            Check.due("round the ring", t.think(0, i % 8), i == 8 ? 0 : -2);
        }
        // a was last, nothing is counted: by 9, 18, 27, 36 it is b, c, d, e, by 45 it would be f.
        int[] want = {-1, 9, 18, 27, 36, -1, -1, -1};
        for (int i = 0; i < 8; i++) {
            Check.due("tithed " + i, t.tithed(0, i), want[i]);
        }
        t.think(0, 1);
        // One is counted: by 8, 17, 26, 35 it is b, c, d, e.
        int[] then = {-1, 8, 17, 26, 35, -1, -1, -1};
        for (int i = 0; i < 8; i++) {
            Check.due("tithed then " + i, t.tithed(0, i), then[i]);
        }
        for (int i = 2; i < 9; i++) {
            t.think(0, i % 8);
        }
        // Eight are counted: by 1, 10, 19, 28 it is b, c, d, e; by 37 it would be f.
        int[] late = {-1, 1, 10, 19, 28, -1, -1, -1};
        for (int i = 0; i < 8; i++) {
            Check.due("tithed late " + i, t.tithed(0, i), late[i]);
        }
    }

    /** The least is 1; who has all but one counted, and none that may follow, has none. */
    private static void tithedAtLeastOne() {
        TithedThoughts t = Check.told(Texts.thoughts(2) + "follows b a;tenant p plain;tithe 2;");
        Check.due("b by two", t.tithed(0, 1), 2);
        Check.due("a is never the second", t.tithed(0, 0), -1);
        t.think(0, 0);
        Check.due("b by one", t.tithed(0, 1), 1);
        t.think(0, 1);
        Check.due("behind a dead one", t.tithed(0, 1), -1);
    }

    /** "in how many rows of so many THOUGHTS (1 to 9)" */
    private static void waysMany() {
        TithedThoughts t = new TithedThoughts();
        String text = Texts.thoughts(8) + Texts.allFollow("abcdefgh") + "tenant p plain;";
        Check.due("all behind all", Check.abbey(t, text), 0);
        int want = 1;
        for (int many = 1; many <= 9; many++) {
            Check.due("ways of " + many, t.ways(0, 7, many), want);
            want *= 8;
        }
        for (int many : new int[] {LEAST, -1, 0, 10, 11, MOST}) {
            Check.due("ways of " + many, t.ways(0, 7, many), -1);
        }
    }

    /** "HOLDERS (1 to 6)" */
    private static void holdersPart() {
        TithedThoughts t = Check.told("thought a worth 1 part 1;thought b worth 1 part 6;thought c worth 1 part 0;"
            + Texts.allFollow("abc") + "tenant p plain;engine 1;");
        for (int i = 0; i < 3; i++) {
            t.think(0, i);
        }
        Check.due("part 1", t.holders(1), 1);
        Check.due("part 2", t.holders(2), 0);
        Check.due("part 6", t.holders(6), 1);
        for (int part : new int[] {LEAST, -1, 0, 7, 8, MOST}) {
            Check.due("part " + part, t.holders(part), -1);
        }
    }

    // ---- stakes, tithes, seeds, steps, marks

    /** "each gets so much (0 to 9) .. he loses so much (0 to 9), the other one gets so much (0 to 9)" */
    private static void restsStakes() {
        TithedThoughts t = new TithedThoughts();
        Check.due("all 0", t.rests(0, 0, 0, -1), 4);
        Check.due("all 9", t.rests(9, 9, 9, -1), 2);
        Check.due("0 and 9", t.rests(0, 9, 9, -1), 1);
        for (int stake : new int[] {LEAST, -2, -1, 10, 11, MOST}) {
            for (int what = -1; what < 2; what++) {
                int w = what;
                Check.none("both get " + stake, () -> t.rests(stake, 0, 0, w));
                Check.none("one loses " + stake, () -> t.rests(0, stake, 0, w));
                Check.none("the other one gets " + stake, () -> t.rests(0, 0, stake, w));
            }
        }
    }

    /** "what NONE: how many; i: the i-th .. none such" */
    private static void restsWhat() {
        TithedThoughts t = new TithedThoughts();
        for (int i = 0; i < 4; i++) {
            Check.due("of four", t.rests(0, 0, 0, i), i);
        }
        Check.due("of two", t.rests(9, 9, 9, 1), 3);
        Check.due("of one", t.rests(0, 9, 9, 0), 0);
        for (int what : new int[] {LEAST, -3, -2, 4, 5, MOST}) {
            Check.none("rests " + what, () -> t.rests(0, 0, 0, what));
        }
        Check.none("a third of two", () -> t.rests(9, 9, 9, 2));
        Check.none("a second of one", () -> t.rests(0, 9, 9, 1));
    }

    /** "if the tithe were so many (2 to 12)" */
    private static void otherTithe() {
        TithedThoughts t = Check.told(ABBEY);
        Check.due("years", Check.years(t, "think p a;".repeat(36)), 0);
        for (int tithe = 2; tithe <= 12; tithe++) {
            Check.due("other " + tithe, t.other(tithe), 36 / tithe);
        }
        for (int tithe : new int[] {LEAST, -2, -1, 0, 1, 13, 14, MOST}) {
            Check.due("other " + tithe, t.other(tithe), -1);
        }
    }

    /** "LIVES by a SEED (0 to 9999)" */
    private static void livesSeed() {
        TithedThoughts t = Check.told(ABBEY);
        for (int seed : new int[] {0, 1, 9998, 9999}) {
            Check.yes("seed " + seed, t.lives(seed, 9, 0) >= 0);
        }
        for (int seed : new int[] {LEAST, -2, -1, 10000, 10001, MOST}) {
            for (int what = 0; what < 3; what++) {
                int w = what;
                Check.none("seed " + seed, () -> t.lives(seed, 9, w));
            }
        }
    }

    /** "of so many steps (1 to 99)" */
    private static void livesSteps() {
        TithedThoughts t = Check.told("thought a worth 1 part 0;follows a a;tenant p plain;tithe 3;");
        // Each step is a think, each third one a tithe, and the others gain 1.
        for (int steps : new int[] {1, 2, 3, 98, 99}) {
            Check.due("tithes by " + steps, t.lives(7, steps, 0), steps / 3);
            Check.due("gained by " + steps, t.lives(7, steps, 2), steps - steps / 3);
        }
        for (int steps : new int[] {LEAST, -1, 0, 100, 101, MOST}) {
            for (int what = 0; what < 3; what++) {
                int w = what;
                Check.none("steps " + steps, () -> t.lives(7, steps, w));
            }
        }
    }

    private static void livesWhat() {
        TithedThoughts t = Check.told(ABBEY);
        for (int what : new int[] {LEAST, -2, -1, 3, 4, MOST}) {
            Check.none("lives, what " + what, () -> t.lives(7, 9, what));
        }
    }

    /** "MARKS 0 to 3": others are "none such". */
    private static void markNumber() {
        TithedThoughts t = Check.told(ABBEY);
        for (int mark : new int[] {LEAST, -2, -1, 4, 5, MOST}) {
            Check.no("lay " + mark, t.mark(mark, false));
            Check.no("back to " + mark, t.mark(mark, true));
        }
        for (int mark = 0; mark < 4; mark++) {
            Check.no("not laid " + mark, t.mark(mark, true));
            Check.yes("lay " + mark, t.mark(mark, false));
            Check.yes("back to " + mark, t.mark(mark, true));
        }
    }

    /** "away from itself (1 to 8; by what follows)" */
    private static void ringAtMost8() {
        String names = "abcdefgh";
        for (int many = 1; many <= 8; many++) {
            TithedThoughts t = Check.told(Texts.thoughts(8) + Texts.ring(names.substring(0, many)));
            for (int i = 0; i < 8; i++) {
                Check.due("ring of " + many + ": " + i, t.ring(i), i < many ? many : -1);
            }
        }
    }

    // ---- a TENANT or a THOUGHT that is none

    private static void noTenant() {
        TithedThoughts t = Check.told(ABBEY);
        for (int none : new int[] {LEAST, -32, -2, -1, 2, 3, 4, 5, 31, 32, MOST}) {
            String of = " of tenant " + none;
            Check.due("tenant" + of, t.tenant(none, 0), -1000);
            Check.due("keeps" + of, t.keeps(none, 0), -1);
            Check.due("think" + of, t.think(none, 0), -1);
            Check.due("gate" + of, t.gate(none), -1);
            Check.no("pool" + of, t.pool(none, 0));
            Check.none("best" + of, () -> t.best(none, 1, -1));
            Check.due("tithed" + of, t.tithed(none, 0), -1);
            Check.due("ways" + of, t.ways(none, 0, 1), -1);
            Check.due("safe" + of, t.safe(none), -1);
            Check.due("dowry" + of, t.dowry(none), -1);
            Check.due("match" + of, t.match(none), none == -1 ? 0 : -2);
            Check.due("chance" + of, t.chance(none, 0), -1);
        }
    }

    private static void noThought() {
        TithedThoughts t = Check.told(ABBEY);
        for (int none : new int[] {LEAST, -32, -2, -1, 3, 4, 7, 8, 31, 32, MOST}) {
            String of = " of thought " + none;
            Check.due("thought" + of, t.thought(none, 0), -1);
            Check.due("keeps" + of, t.keeps(0, none), -1);
            Check.due("think" + of, t.think(0, none), -1);
            Check.no("pool" + of, t.pool(0, none));
            Check.due("tithed" + of, t.tithed(0, none), -1);
            Check.due("ways" + of, t.ways(0, none, 1), -1);
            Check.no("guess that" + of, t.guess(none, true));
            Check.no("guess not" + of, t.guess(none, false));
            Check.due("chance" + of, t.chance(0, none), -1);
            Check.due("ring" + of, t.ring(none), -1);
        }
        Check.due("no guess", t.count(9), 0);
    }
}
