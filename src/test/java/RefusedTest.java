import java.util.NoSuchElementException;
import java.util.function.Consumer;
import java.util.function.IntSupplier;
import java.util.function.Supplier;

/** A refused call answers as the document says, and nothing has changed behind it; nor behind a question. */
public final class RefusedTest {
    private static final int LEAST = Integer.MIN_VALUE;
    private static final int MOST = Integer.MAX_VALUE;
    private static final int[] ODD = {LEAST, -1000, -2, -1, 8, 9, 32, 1000, MOST};
    private static final int NO_TENANT = 5;
    private static final int NO_THOUGHT = 4;
    private static final int RAN = 3;

    public static void main(String[] args) {
        theTwinsDiffer();
        abbeyWithAFault();
        yearsWithAFault();
        feedBeyond();
        thinkRefused();
        gateRefused();
        poolRefused();
        undoRefused();
        guessRefused();
        markRefused();
        readingsRefused();
        questionsRefused();
        thrown();
        questionsChangeNothing();
        onANewObject();
        Check.finish();
    }

    // ---- objects that refuse

    private static TithedThoughts withATape() {
        TithedThoughts t = Busy.make();
        Check.feed(t, "gate p;");
        return t;
    }

    private static TithedThoughts fullTape() {
        TithedThoughts t = Busy.make();
        Check.feed(t, " ".repeat(1000));
        return t;
    }

    private static TithedThoughts fullOfGuesses() {
        TithedThoughts t = Busy.make();
        for (int i = 0; i < 6; i++) {
            t.guess(0, true);
        }
        return t;
    }

    /** Nothing can be undone, as a mark was gone back to. */
    private static TithedThoughts goneBack() {
        TithedThoughts t = Busy.make();
        t.mark(0, true);
        return t;
    }

    // ---- how a refused call is looked at

    private static void refused(String call, Supplier<TithedThoughts> make, Call asked, int want) {
        Check.due(call, asked.of(make.get()), want);
        Twins.unchanged(call, make, asked::of);
    }

    private interface Call {
        int of(TithedThoughts t);
    }

    private static int bit(boolean answer) {
        return answer ? 1 : 0;
    }

    /** If these calls, which do change something, left the twins alike, the looks would see too little. */
    private static void theTwinsDiffer() {
        Check.yes("busy", Busy.make().count(5) == 8 && Busy.make().count(10) == 11 && Busy.make().count(9) == 2 && Busy.make().count(8) == 6);
        seen("think", t -> t.think(0, 2));
        seen("gate", t -> t.gate(2));
        seen("pool", t -> t.pool(0, 1));
        seen("undo", TithedThoughts::undo);
        seen("guess", t -> t.guess(0, true));
        seen("mark 0 laid", t -> t.mark(0, false));
        seen("mark 3 laid", t -> t.mark(3, false));
        seen("mark 2 gone back to", t -> t.mark(2, true));
        seen("feed", t -> t.feed(32, 0, 0));
        seen("years", TithedThoughts::years);
        seen("abbey", TithedThoughts::abbey);
    }

    private static void seen(String call, Consumer<TithedThoughts> more) {
        Check.yes("a change is seen: " + call, Twins.differ(Busy::make, more));
    }

    // ---- what reads the TAPE

    /** "0, or its FAULT (all stays then)": the tape alone is taken. */
    private static void abbeyWithAFault() {
        String[] texts = {";", "thought z worth 1 part 1;thought z", "thought z worth 1 part 1;follows z x;",
            "tenant x plain;tithe 2;runs 3;engine 6;gains 5;back 5;tithe 2;", "tithe 13;", "gains (((((1)))));",
            Texts.thoughts(8) + "thought", Texts.tenants(5, "runner") + "tenant", "gains 1+;", "back 1", "gains 9;x"};
        int[] faults = {1, 3 + 16 * 33, 2 + 16 * 35, 3 + 16 * 54, 4 + 16 * 6, 5 + 16 * 11,
            5 + 16 * Texts.thoughts(8).length(), 5 + 16 * 80, 1 + 16 * 8, 1 + 16 * 6, 1 + 16 * 8};
        for (int i = 0; i < texts.length; i++) {
            String text = texts[i];
            refused("an abbey " + text, Busy::make, t -> Check.abbey(t, text), faults[i]);
        }
        refused("an abbey of years", Busy::make, t -> Check.abbey(t, "gate p;"), 1);
    }

    private static void yearsWithAFault() {
        String[] texts = {";", "gate p;gate x;", "think p a;think p x;", "think a a;", "pool p;", "gate p",
            "gate p;".repeat(40) + "gate p;", "gate p;tithe 2;", "pool q c;pool q 12345;"};
        int[] faults = {1, 2 + 16 * 12, 2 + 16 * 18, 2 + 16 * 6, 1 + 16 * 6, 1 + 16 * 6, 5 + 16 * 280, 1 + 16 * 7,
            1 + 16 * 16};
        for (int i = 0; i < texts.length; i++) {
            String text = texts[i];
            refused("years " + text, Busy::make, t -> Check.years(t, text), faults[i]);
        }
        refused("years of an abbey", Busy::make, t -> Check.years(t, "tithe 3;"), 1);
    }

    /** "others than 10 and 32 .. 126, and what is beyond 1,000, are left out" */
    private static void feedBeyond() {
        refused("feed of nothing", RefusedTest::withATape, t -> t.feed(0, 0, 0), 7);
        refused("feed of others", RefusedTest::withATape, t -> t.feed(0x0109090b0d1f7f80L, -1L, LEAST), 7);
        refused("feed of a full tape", RefusedTest::fullTape, t -> t.feed(0x6161616161616161L, 0x61, 0x61), 1000);
    }

    // ---- by hand

    /** "NONE: others, it can't be." */
    private static void thinkRefused() {
        for (int odd : ODD) {
            refused("think of tenant " + odd, RefusedTest::withATape, t -> t.think(odd, 0), -1);
            refused("think thought " + odd, RefusedTest::withATape, t -> t.think(0, odd), -1);
        }
        refused("think of no tenant", Busy::make, t -> t.think(NO_TENANT, 0), -1);
        refused("think no thought", Busy::make, t -> t.think(0, NO_THOUGHT), -1);
        refused("d may not follow b", Busy::make, t -> t.think(0, 3), -1);
        refused("d may not follow d", Busy::make, t -> t.think(1, 3), -1);
        refused("c may not follow c", Busy::make, t -> t.think(2, 2), -1);
        for (int i = 0; i < 4; i++) {
            int thought = i;
            refused("who ran thinks", Busy::make, t -> t.think(RAN, thought), -1);
        }
    }

    /** "NONE: others, he RAN." */
    private static void gateRefused() {
        for (int odd : ODD) {
            refused("gate of tenant " + odd, RefusedTest::withATape, t -> t.gate(odd), -1);
        }
        refused("gate of no tenant", Busy::make, t -> t.gate(NO_TENANT), -1);
        refused("gate of who ran", Busy::make, t -> t.gate(RAN), -1);
    }

    /** "false: others, he RAN, keeps none." */
    private static void poolRefused() {
        for (int odd : ODD) {
            refused("pool of tenant " + odd, RefusedTest::withATape, t -> bit(t.pool(odd, 0)), 0);
            refused("pool thought " + odd, RefusedTest::withATape, t -> bit(t.pool(0, odd)), 0);
        }
        refused("pool of no tenant", Busy::make, t -> bit(t.pool(NO_TENANT, 0)), 0);
        refused("pool no thought", Busy::make, t -> bit(t.pool(0, NO_THOUGHT)), 0);
        refused("pool by who ran", Busy::make, t -> bit(t.pool(RAN, 3)), 0);
        refused("pool what was pooled", Busy::make, t -> bit(t.pool(0, 0)), 0);
        refused("pool what was never thought", Busy::make, t -> bit(t.pool(4, 0)), 0);
        refused("pool what was the tithe", Busy::make, t -> bit(t.pool(1, 3)), 0);
    }

    /** "false: nothing can be." */
    private static void undoRefused() {
        refused("undo behind a mark", RefusedTest::goneBack, t -> bit(t.undo()), 0);
        refused("undo of nothing", TithedThoughts::new, t -> bit(t.undo()), 0);
    }

    /** "false: others, 8 there are." */
    private static void guessRefused() {
        for (int odd : ODD) {
            refused("guess " + odd, RefusedTest::withATape, t -> bit(t.guess(odd, true)), 0);
            refused("guess not " + odd, RefusedTest::withATape, t -> bit(t.guess(odd, false)), 0);
        }
        refused("guess no thought", Busy::make, t -> bit(t.guess(NO_THOUGHT, true)), 0);
        refused("a ninth guess", RefusedTest::fullOfGuesses, t -> bit(t.guess(1, true)), 0);
        refused("a ninth guess", RefusedTest::fullOfGuesses, t -> bit(t.guess(0, false)), 0);
    }

    /** "false: none such, nothing is on it (back)." */
    private static void markRefused() {
        for (int odd : new int[] {LEAST, -2, -1, 4, 5, MOST}) {
            refused("lay " + odd, RefusedTest::withATape, t -> bit(t.mark(odd, false)), 0);
            refused("back to " + odd, RefusedTest::withATape, t -> bit(t.mark(odd, true)), 0);
        }
        refused("back to 1, not laid", Busy::make, t -> bit(t.mark(1, true)), 0);
        refused("back to 3, not laid", Busy::make, t -> bit(t.mark(3, true)), 0);
    }

    // ---- what is asked

    private static void readingsRefused() {
        for (int odd : ODD) {
            refused("thought " + odd, Busy::make, t -> t.thought(odd, 0), -1);
            refused("thought what " + odd, Busy::make, t -> t.thought(0, odd), -1);
            refused("tenant " + odd, Busy::make, t -> t.tenant(odd, 0), -1000);
            refused("tenant what " + odd, Busy::make, t -> t.tenant(0, odd), -1000);
            refused("keeps of tenant " + odd, Busy::make, t -> t.keeps(odd, 0), -1);
            refused("keeps of thought " + odd, Busy::make, t -> t.keeps(0, odd), -1);
        }
        refused("count 12", Busy::make, t -> t.count(12), -1);
        refused("count -1", Busy::make, t -> t.count(-1), -1);
    }

    private static void questionsRefused() {
        for (int odd : ODD) {
            refused("tithed of tenant " + odd, Busy::make, t -> t.tithed(odd, 0), -1);
            refused("tithed of thought " + odd, Busy::make, t -> t.tithed(0, odd), -1);
            refused("ways of tenant " + odd, Busy::make, t -> t.ways(odd, 0, 1), -1);
            refused("ways to thought " + odd, Busy::make, t -> t.ways(0, odd, 1), -1);
            refused("safe " + odd, Busy::make, t -> t.safe(odd), -1);
            refused("dowry " + odd, Busy::make, t -> t.dowry(odd), -1);
            refused("chance of tenant " + odd, Busy::make, t -> t.chance(odd, 0), -1);
            refused("chance of thought " + odd, Busy::make, t -> t.chance(0, odd), -1);
            refused("ring " + odd, Busy::make, t -> t.ring(odd), -1);
        }
        refused("match -2", Busy::make, t -> t.match(-2), -2);
        refused("match 5", Busy::make, t -> t.match(NO_TENANT), -2);
        refused("tithed of who ran", Busy::make, t -> t.tithed(RAN, 0), -1);
        refused("chance of who ran", Busy::make, t -> t.chance(RAN, 0), -1);
        refused("ways of none", Busy::make, t -> t.ways(0, 0, 0), -1);
        refused("ways of ten", Busy::make, t -> t.ways(0, 0, 10), -1);
        refused("holders 0", Busy::make, t -> t.holders(0), -1);
        refused("holders 7", Busy::make, t -> t.holders(7), -1);
        refused("other 1", Busy::make, t -> t.other(1), -1);
        refused("other 13", Busy::make, t -> t.other(13), -1);
    }

    /** Each call that throws NoSuchElementException. */
    private static void thrown() {
        thrown("judged -1", t -> t.judged(-1));
        thrown("judged 3", t -> t.judged(3));
        thrown("best of no tenant", t -> t.best(NO_TENANT, 1, -1));
        thrown("best of none", t -> t.best(0, 0, -1));
        thrown("best of six", t -> t.best(0, 6, -1));
        thrown("best what -2", t -> t.best(0, 1, -2));
        thrown("best, no second of one", t -> t.best(0, 1, 1));
        thrown("best of who ran", t -> t.best(RAN, 1, -1));
        thrown("rests -1", t -> t.rests(-1, 0, 0, -1));
        thrown("rests 10", t -> t.rests(0, 0, 10, -1));
        thrown("rests what -2", t -> t.rests(4, 3, 6, -2));
        thrown("rests, no second", t -> t.rests(4, 3, 6, 1));
        thrown("lives seed -1", t -> t.lives(-1, 1, 0));
        thrown("lives seed 10000", t -> t.lives(10000, 1, 0));
        thrown("lives of no steps", t -> t.lives(1, 0, 0));
        thrown("lives of 100 steps", t -> t.lives(1, 100, 0));
        thrown("lives what 3", t -> t.lives(1, 1, 3));
    }

    private static void thrown(String call, Call asked) {
        TithedThoughts once = Busy.make();
        Check.none(call, () -> asked.of(once));
        Twins.unchanged(call, Busy::make, t -> isThrown(() -> asked.of(t)));
    }

    private static boolean isThrown(IntSupplier call) {
        try {
            call.getAsInt();
            return false;
        } catch (NoSuchElementException e) {
            return true;
        }
    }

    /** "(All from how it is now.)", "(all is as ahead then)": what is answered changes nothing either. */
    private static void questionsChangeNothing() {
        Twins.unchanged("readings", RefusedTest::withATape, Twins::state);
        Twins.unchanged("questions", RefusedTest::withATape, Twins::questions);
        Twins.unchanged("rests", RefusedTest::withATape, t -> t.rests(0, 0, 0, 3));
        for (int seed = 0; seed < 10000; seed += 1111) {
            int s = seed;
            Twins.unchanged("lives", RefusedTest::withATape, t -> t.lives(s, 99, 1));
        }
    }

    private static void onANewObject() {
        Supplier<TithedThoughts> make = TithedThoughts::new;
        refused("think", make, t -> t.think(0, 0), -1);
        refused("gate", make, t -> t.gate(0), -1);
        refused("pool", make, t -> bit(t.pool(0, 0)), 0);
        refused("guess", make, t -> bit(t.guess(0, true)), 0);
        refused("mark", make, t -> bit(t.mark(0, true)), 0);
        refused("mark 4", make, t -> bit(t.mark(4, false)), 0);
        refused("years", make, t -> Check.years(t, "gate p;"), 2 + 16 * 5);
        refused("abbey", make, t -> Check.abbey(t, "tithe 12;tithe"), 3 + 16 * 9);
    }
}
