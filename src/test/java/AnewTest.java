import java.util.function.Supplier;

/** What begins anew by an ABBEY, what comes back by undo and by a mark: all of it, seen in every way. */
public final class AnewTest {
    private static final String OTHER = Texts.thoughts(8) + Texts.ring("abcdefgh") + "tenant k clever;tenant s simple;"
        + "tenant r runner;tithe 4;runs 3;";

    public static void main(String[] args) {
        nobodyHasThought();
        nobodyRan();
        barnIsEmpty();
        noYears();
        noGuess();
        nothingCanBeUndone();
        noMark();
        untoldAgain();
        lawsAreGone();
        lawsInEitherOrder();
        asOnANewObject();
        undoneWhole();
        undoneOneByOne();
        undoLeavesTheRest();
        markedWhole();
        markLaidAgain();
        markLeavesTheTape();
        yearsFromTheBeginning();
        tapeWithoutWhatWasThere();
        Check.finish();
    }

    // ---- "Without a FAULT an ABBEY is the ABBEY from then on: .."

    private static TithedThoughts toldAgain() {
        TithedThoughts t = Busy.make();
        Check.due("told again", Check.abbey(t, Busy.ABBEY), 0);
        return t;
    }

    /** "nobody has thought, counted or gained anything" */
    private static void nobodyHasThought() {
        TithedThoughts t = toldAgain();
        for (int i = 0; i < 5; i++) {
            Check.due("no last one", t.tenant(i, 1), -1);
            Check.due("nothing counted", t.tenant(i, 2), 0);
            Check.due("nothing gained", t.tenant(i, 3), 0);
            for (int k = 0; k < 4; k++) {
                Check.due("nothing kept", t.keeps(i, k), 0);
            }
        }
        Check.due("a simple one's very first", t.think(1, 0), 0);
        t.think(2, 0);
        t.think(2, 0);
        Check.due("of a clever one's new three", t.think(2, 0), 0);
    }

    /** "nobody ran" */
    private static void nobodyRan() {
        TithedThoughts t = toldAgain();
        Check.due("nobody ran", t.count(5), 0);
        Check.due("the runner", t.tenant(3, 4), 0);
        Check.due("the runner thinks", t.think(3, 3), -2);
    }

    /** "the BARN is empty" */
    private static void barnIsEmpty() {
        TithedThoughts t = toldAgain();
        Check.due("none lies there", t.count(6), 0);
        Check.due("of no worth", t.count(7), 0);
        for (int k = 0; k < 4; k++) {
            Check.due("none of " + k, t.thought(k, 3), 0);
        }
        Check.due("all is lacked", t.lacks(), 15);
    }

    /** "no YEARS" */
    private static void noYears() {
        TithedThoughts t = toldAgain();
        Check.due("no lines", t.count(8), 0);
        Check.due("nothing judged", t.judged(0), -1);
        Check.due("nothing gained", t.judged(2), 0);
    }

    /** "no GUESS" */
    private static void noGuess() {
        TithedThoughts t = toldAgain();
        Check.due("no guess", t.count(9), 0);
        Check.due("all fit", t.fits(), 15);
        for (int i = 0; i < 8; i++) {
            Check.yes("eight more", t.guess(0, true));
        }
    }

    /** "nothing can be undone" */
    private static void nothingCanBeUndone() {
        TithedThoughts t = toldAgain();
        Check.due("nothing can be undone", t.count(10), 0);
        Check.no("undo", t.undo());
    }

    /** "no MARK is there" */
    private static void noMark() {
        TithedThoughts t = toldAgain();
        for (int mark = 0; mark < 4; mark++) {
            Check.no("mark " + mark, t.mark(mark, true));
        }
    }

    /** What an ABBEY does not tell is as at first, not as it was. */
    private static void untoldAgain() {
        TithedThoughts t = Check.told("tithe 2;runs 20;engine 6;");
        for (int i = 0; i < 3; i++) {
            Check.due("tithe 3", Check.abbey(t, "tithe 3;"), 0);
            Check.due("tithe", t.count(2), 3);
            Check.due("runs", t.count(3), 10);
            Check.due("engine", t.count(4), 3);
            Check.due("runs and engine", Check.abbey(t, "runs 0;engine 1;"), 0);
            Check.due("tithe", t.count(2), 10);
        }
    }

    /** "Without gains: rich; without back: 0." */
    private static void lawsAreGone() {
        String plain = "thought a worth 7 part 0;follows a a;tenant p plain;";
        TithedThoughts t = new TithedThoughts();
        for (int i = 0; i < 3; i++) {
            Check.due("with laws", Check.abbey(t, plain + "gains 50;back counted;"), 0);
            t.think(0, 0);
            Check.due("by the law", t.tenant(0, 3), 50);
            Check.due("by the law", t.gate(0), 1);
        }
        for (int i = 0; i < 3; i++) {
            Check.due("without laws", Check.abbey(t, plain), 0);
            t.think(0, 0);
            Check.due("rich", t.tenant(0, 3), 7);
            Check.due("0", t.gate(0), 0);
        }
    }

    private static void lawsInEitherOrder() {
        String plain = "thought a worth 7 part 0;follows a a;tenant p plain;tithe 12;";
        String[] laws = {"gains rich*2+1;back counted-1;", "back counted+0-1;gains rich*2+1;", "gains 15;", "back 1;",
            "back 1;gains 15;"};
        int[] gained = {15, 15, 15, 7, 15};
        int[] left = {1, 1, 0, 1, 1};
        TithedThoughts t = new TithedThoughts();
        for (int i = 0; i < 3 * laws.length; i++) {
            int at = i % laws.length;
            Check.due("laws", Check.abbey(t, plain + laws[at]), 0);
            t.think(0, 0);
            t.think(0, 0);
            Check.due("gained by " + laws[at], t.tenant(0, 3), 2 * gained[at]);
            Check.due("left by " + laws[at], t.gate(0), left[at]);
        }
    }

    private static void asOnANewObject() {
        for (String text : new String[] {Busy.ABBEY, OTHER, Texts.thoughts(2), Texts.tenants(2, "clever"), ""}) {
            Twins.alike("told behind another abbey: " + text, () -> Check.told(text), () -> told(Busy.make(), text));
            Twins.alike("told behind two others: " + text, () -> Check.told(text),
                () -> told(told(Busy.make(), OTHER), text));
        }
    }

    private static TithedThoughts told(TithedThoughts t, String text) {
        Check.due("abbey " + text, Check.abbey(t, text), 0);
        return t;
    }

    // ---- "UNDO: all of these .. one by one"

    private static void undoneWhole() {
        for (int i = 0; i < 5; i++) {
            int tenant = i;
            Twins.unchanged("gate and undo of " + i, Busy::make, t -> undoIf(t, t.gate(tenant) != -1));
            for (int k = 0; k < 4; k++) {
                int thought = k;
                Twins.unchanged("think and undo of " + i + " " + k, Busy::make,
                    t -> undoIf(t, t.think(tenant, thought) != -1));
                Twins.unchanged("pool and undo of " + i + " " + k, Busy::make, t -> undoIf(t, t.pool(tenant, thought)));
            }
        }
    }

    private static void undoIf(TithedThoughts t, boolean done) {
        if (done) {
            Check.yes("undo", t.undo());
        }
    }

    private static void undoneOneByOne() {
        Supplier<TithedThoughts> two = () -> done(0);
        for (int i = 1; i <= 5; i++) {
            int more = i;
            Twins.alike(i + " done and undone", two, () -> undone(done(more), more));
        }
    }

    /** Some deeds behind the busy ones, each of another kind. */
    private static TithedThoughts done(int many) {
        TithedThoughts t = Busy.make();
        boolean[] could = {many < 1 || t.think(2, 0) == 1, many < 2 || t.pool(2, 0), many < 3 || t.gate(2) == 0,
            many < 4 || t.think(1, 0) == -2, many < 5 || t.think(0, 2) == 2};
        for (int i = 0; i < could.length; i++) {
            Check.yes("deed " + i, could[i]);
        }
        return t;
    }

    private static TithedThoughts undone(TithedThoughts t, int many) {
        for (int i = 0; i < many; i++) {
            Check.yes("undo", t.undo());
        }
        return t;
    }

    /** Thinking, going back and pooling are undone; years, guesses, marks and the tape are not. */
    private static void undoLeavesTheRest() {
        TithedThoughts t = Busy.make();
        t.think(0, 2);
        Check.due("years", Check.years(t, "gate p;"), 0);
        t.guess(0, true);
        t.mark(1, false);
        Check.feed(t, "gate p;gate q;");
        Check.yes("undo", t.undo());
        Check.due("lines", t.count(8), 1);
        Check.due("guesses", t.count(9), 3);
        Check.due("signs", t.count(11), 14);
        Check.yes("mark", t.mark(1, true));
        Check.due("the mark holds what was undone", t.tenant(0, 1), 2);
    }

    // ---- "MARKS 0 to 3 hold how it is, the YEARS, GUESSES"

    private static void markedWhole() {
        for (int i = 0; i < 4; i++) {
            int mark = i;
            Twins.alike("back to " + i, () -> backTo(Busy.make(), mark, false), () -> backTo(Busy.make(), mark, true));
        }
    }

    private static TithedThoughts backTo(TithedThoughts t, int mark, boolean changed) {
        t.mark(mark, false);
        if (changed) {
            change(t);
        }
        Check.yes("back", t.mark(mark, true));
        return t;
    }

    private static void change(TithedThoughts t) {
        for (int i = 0; i < 5; i++) {
            for (int k = 0; k < 4; k++) {
                t.think(i, k);
            }
            t.gate(i);
            t.pool(i, 0);
        }
        t.guess(0, true);
        t.guess(3, false);
        Check.due("years", Check.years(t, "think q d;think q a;think q a;gate k;pool q d;think k d;gate r;"), 0);
    }

    /** What lies on a mark is how it was when it was laid last. */
    private static void markLaidAgain() {
        Twins.alike("laid again", () -> changedAndBack(false), () -> changedAndBack(true));
    }

    private static TithedThoughts changedAndBack(boolean laidAhead) {
        TithedThoughts t = Busy.make();
        if (laidAhead) {
            t.mark(1, false);
        }
        change(t);
        t.mark(1, false);
        t.gate(0);
        Check.yes("back", t.mark(1, true));
        return t;
    }

    private static void markLeavesTheTape() {
        TithedThoughts t = Busy.make();
        t.mark(1, false);
        Check.feed(t, "gate p;");
        Check.yes("back", t.mark(1, true));
        Check.due("signs", t.count(11), 7);
        Check.due("read", t.years(), 0);
        Check.due("one line", t.count(8), 1);
    }

    // ---- "the YEARS from the beginning"

    /** Whatever was judged ahead, and however it is now. */
    private static void yearsFromTheBeginning() {
        String years = "think k a;think k b;think k b;think r a;think r a;think r d;think s c;pool k a;pool k a;gate r;";
        TithedThoughts fresh = Check.told(Busy.ABBEY);
        Check.due("years", Check.years(fresh, years), 0);
        TithedThoughts busy = Busy.make();
        busy.judged(2);
        Check.due("years", Check.years(busy, years), 0);
        for (int round = 0; round < 3; round++) {
            for (int what = 0; what < 3; what++) {
                Check.due("judged " + what, busy.judged(what), fresh.judged(what));
            }
            for (int tithe = 2; tithe <= 12; tithe++) {
                Check.due("other " + tithe, busy.other(tithe), fresh.other(tithe));
            }
            busy.lives(3, 99, 0);
            change(busy);
            Check.due("years", Check.years(busy, years), 0);
        }
        // The second pool of the only a can't be, and is the first such line.
        Check.due("left out", fresh.judged(0), 8);
        Check.due("the clever one's tithe", fresh.judged(1), 2);
    }

    /** "what reads it takes it": signs of an earlier text are no part of a later, shorter one. */
    private static void tapeWithoutWhatWasThere() {
        TithedThoughts t = Check.told("tithe 12;");
        Check.due("a shorter number", Check.abbey(t, "tithe 1"), 4 + 16 * 6);
        Check.due("a word", Check.abbey(t, "tithe 12;engine 3"), 1 + 16 * 17);
        Check.due("a shorter word", Check.abbey(t, "tithe 12;eng"), 1 + 16 * 9);
        Check.due("without a sign", Check.abbey(t, "tithe 12"), 1 + 16 * 8);
        Check.due("1,000 signs", Check.abbey(t, " ".repeat(995) + "tithe"), 1 + 16 * 1000);
        Check.due("1,000 signs", Check.abbey(t, " ".repeat(992) + "tithe 12"), 1 + 16 * 1000);
        Check.due("1,000 signs", Check.abbey(t, "tithe 12;" + " ".repeat(991)), 0);
    }
}
