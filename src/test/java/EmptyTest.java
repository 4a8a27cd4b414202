/** Empty: what each call answers where there is nothing. */
public final class EmptyTest {
    private static final String TWO = Texts.thoughts(2);

    public static void main(String[] args) {
        newObject();
        nothingTold();
        noThoughts();
        noTenants();
        noYears();
        yearsOfNoLines();
        noGuesses();
        noneFits();
        emptyTape();
        tapeOfBlanks();
        nothingFed();
        emptyBarn();
        nothingLacked();
        noLastOne();
        noneMayFollow();
        nothingKept();
        allRan();
        nothingUndone();
        nothingOnMarks();
        Check.finish();
    }

    // ---- no ABBEY

    private static void counts(String when, TithedThoughts t, int... want) {
        for (int what = 0; what < want.length; what++) {
            Check.due(when + ": count " + what, t.count(what), want[what]);
        }
    }

    /** What can be asked without a tenant or a thought, there being neither the one with the other. */
    private static void idle(String when, TithedThoughts t) {
        Check.due(when + ": judged 0", t.judged(0), -1);
        Check.due(when + ": judged 1", t.judged(1), -1);
        Check.due(when + ": judged 2", t.judged(2), 0);
        Check.due(when + ": other 2", t.other(2), 0);
        Check.due(when + ": other 12", t.other(12), 0);
        for (int what = 0; what < 3; what++) {
            Check.due(when + ": lives " + what, t.lives(9999, 99, what), 0);
        }
        for (int part = 1; part <= 6; part++) {
            Check.due(when + ": holders " + part, t.holders(part), 0);
        }
        Check.due(when + ": lacks", t.lacks(), 7);
        Check.due(when + ": givers", t.givers(), -1);
        Check.due(when + ": match", t.match(-1), 0);
        Check.no(when + ": undo", t.undo());
    }

    private static void noTenantAt(String when, TithedThoughts t) {
        Check.due(when + ": tenant", t.tenant(0, 0), -1000);
        Check.due(when + ": keeps", t.keeps(0, 0), -1);
        Check.due(when + ": think", t.think(0, 0), -1);
        Check.due(when + ": gate", t.gate(0), -1);
        Check.no(when + ": pool", t.pool(0, 0));
        Check.none(when + ": best", () -> t.best(0, 1, -1));
        Check.due(when + ": tithed", t.tithed(0, 0), -1);
        Check.due(when + ": ways", t.ways(0, 0, 1), -1);
        Check.due(when + ": safe", t.safe(0), -1);
        Check.due(when + ": dowry", t.dowry(0), -1);
        Check.due(when + ": match of 0", t.match(0), -2);
        Check.due(when + ": chance", t.chance(0, 0), -1);
        Check.due(when + ": poorest", t.poorest(), -1);
    }

    private static void noThoughtAt(String when, TithedThoughts t) {
        Check.due(when + ": thought", t.thought(0, 0), -1);
        Check.due(when + ": keeps", t.keeps(0, 0), -1);
        Check.due(when + ": think", t.think(0, 0), -1);
        Check.no(when + ": pool", t.pool(0, 0));
        Check.none(when + ": best", () -> t.best(0, 1, -1));
        Check.due(when + ": tithed", t.tithed(0, 0), -1);
        Check.due(when + ": ways", t.ways(0, 0, 1), -1);
        Check.no(when + ": guess", t.guess(0, true));
        Check.no(when + ": guess not", t.guess(0, false));
        Check.due(when + ": fits", t.fits(), 0);
        Check.due(when + ": ask", t.ask(), -1);
        Check.due(when + ": chance", t.chance(0, 0), -1);
        Check.due(when + ": dead", t.dead(), 0);
        Check.due(when + ": ring", t.ring(0), -1);
    }

    /** "Nothing, tithe 10." */
    private static void newObject() {
        TithedThoughts t = new TithedThoughts();
        counts("new", t, 0, 0, 10, 10, 3, 0, 0, 0, 0, 0, 0, 0);
        idle("new", t);
        noTenantAt("new", t);
        noThoughtAt("new", t);
        Check.due("new: rests", t.rests(4, 3, 6, -1), 1);
        for (int mark = 0; mark < 4; mark++) {
            Check.no("new: mark " + mark, t.mark(mark, true));
        }
    }

    /** "ABBEY: any number of": none, too; then all is untold again. */
    private static void nothingTold() {
        TithedThoughts t = Check.told(TWO + "tenant p plain;tithe 2;runs 20;engine 6;gains 9;back 9;follows a a;");
        t.think(0, 0);
        Check.due("an abbey of nothing", t.abbey(), 0);
        counts("nothing told", t, 0, 0, 10, 10, 3, 0, 0, 0, 0, 0, 0, 0);
        idle("nothing told", t);
        noTenantAt("nothing told", t);
        noThoughtAt("nothing told", t);
    }

    private static void noThoughts() {
        TithedThoughts t = Check.told("tenant p plain;tenant s simple;tenant k clever;tenant r runner;");
        counts("no thoughts", t, 0, 4, 10, 10, 3, 0, 0, 0, 0, 0, 0, 0);
        idle("no thoughts", t);
        noThoughtAt("no thoughts", t);
        for (int i = 0; i < 4; i++) {
            Check.due("can think nothing", t.tenant(i, 5), 0);
            Check.due("nothing is safe", t.safe(i), 0);
            Check.due("no dowry", t.dowry(i), 0);
            Check.due("with nobody", t.match(i), i);
            Check.due("no gate hinders", t.gate(i), 0);
        }
        Check.due("the first is the poorest", t.poorest(), 0);
        Check.due("four gates can be undone", t.count(10), 4);
    }

    private static void noTenants() {
        TithedThoughts t = Check.told(TWO + "follows b a;");
        counts("no tenants", t, 2, 0, 10, 10, 3, 0, 0, 0, 0, 0, 0, 0);
        idle("no tenants", t);
        noTenantAt("no tenants", t);
        Check.due("both fit", t.fits(), 3);
        Check.due("b is dead", t.dead(), 2);
    }

    // ---- no YEARS, no GUESSES

    private static void noYears() {
        TithedThoughts t = Check.told(TWO + "tenant p plain;tenant s simple;tithe 2;follows a a;");
        t.think(0, 0);
        t.think(0, 0);
        t.think(1, 0);
        Check.due("no lines", t.count(8), 0);
        Check.due("no line that can't be", t.judged(0), -1);
        Check.due("no line with a tithe", t.judged(1), -1);
        Check.due("nothing gained by the years", t.judged(2), 0);
        for (int tithe = 2; tithe <= 12; tithe++) {
            Check.due("no tithes by the years", t.other(tithe), 0);
        }
    }

    /** "YEARS: any number of": none, too, and the years that were are gone. */
    private static void yearsOfNoLines() {
        TithedThoughts t = Check.told(TWO + "tenant s simple;");
        Check.due("years", Check.years(t, "think s a;think s a;"), 0);
        Check.due("second can't be", t.judged(0), 1);
        Check.due("first is a tithe", t.judged(1), 0);
        Check.due("no years", t.years(), 0);
        Check.due("no lines", t.count(8), 0);
        Check.due("judged 0", t.judged(0), -1);
        Check.due("judged 1", t.judged(1), -1);
        Check.due("other", t.other(2), 0);
    }

    /** By no GUESS all THOUGHTS fit. */
    private static void noGuesses() {
        Check.due("all eight fit", Check.told(Texts.thoughts(8)).fits(), 255);
        Check.due("none parts them", Check.told(Texts.thoughts(8)).ask(), -1);
        Check.due("one fits", Check.told(Texts.thoughts(1) + "follows a a;").fits(), 1);
        Check.due("one is not to be parted", Check.told(Texts.thoughts(1) + "follows a a;").ask(), -1);
    }

    private static void noneFits() {
        TithedThoughts t = Check.told(TWO + "follows a a;");
        Check.yes("guess", t.guess(0, true));
        Check.yes("guess", t.guess(0, false));
        Check.due("none fits", t.fits(), 0);
        Check.due("nothing to ask for", t.ask(), -1);
    }

    // ---- the TAPE

    private static void emptyTape() {
        TithedThoughts t = Check.told(TWO);
        Check.due("taken", t.count(11), 0);
        Check.due("years of an empty tape", t.years(), 0);
        Check.due("thoughts stay", t.count(0), 2);
        Check.due("an abbey of an empty tape", t.abbey(), 0);
        Check.due("no thoughts", t.count(0), 0);
    }

    private static void tapeOfBlanks() {
        TithedThoughts t = Check.told(TWO);
        Check.due("blanks as years", Check.years(t, " \n \n"), 0);
        Check.due("taken", t.count(11), 0);
        Check.due("blanks as an abbey", Check.abbey(t, "\n \n "), 0);
        Check.due("taken", t.count(11), 0);
        Check.due("no thoughts", t.count(0), 0);
    }

    /** "Up to 24 signs": none, too. */
    private static void nothingFed() {
        TithedThoughts t = new TithedThoughts();
        Check.due("nothing", t.feed(0, 0, 0), 0);
        Check.due("a sign", t.feed(0, 32, 0), 1);
        Check.due("nothing behind it", t.feed(0, 0, 0), 1);
        Check.due("one that counts for nothing", t.feed(-1, -1, -1), 1);
    }

    // ---- the BARN and the TENANTS

    private static void emptyBarn() {
        TithedThoughts t = Check.told(Texts.thoughts(2) + "follows b a;tenant p plain;engine 6;gains 50+barn;back 1+barn;");
        Check.due("nothing lies there", t.count(6), 0);
        Check.due("of no worth", t.count(7), 0);
        Check.due("no a", t.thought(0, 3), 0);
        Check.due("all parts are lacked", t.lacks(), 63);
        t.think(0, 0);
        Check.due("barn is 0 in gains", t.tenant(0, 3), 50);
        t.think(0, 1);
        Check.due("barn is 0 in back", t.gate(0), 1);
        Check.due("nothing lies there still", t.count(6), 0);
    }

    /** If nothing is lacked, nobody is who gives it. */
    private static void nothingLacked() {
        TithedThoughts t = Check.told(Texts.thoughts(1) + "tenant s simple;engine 1;");
        Check.due("by none", t.givers(), -1);
        t.think(0, 0);
        Check.due("nothing is lacked", t.lacks(), 0);
        Check.due("no givers are wanted", t.givers(), 0);
    }

    /** "any one if he has no last one", "0 if there is none" */
    private static void noLastOne() {
        TithedThoughts t = Check.told("thought a worth 7 part 5;thought b worth 9 part 4;tenant p plain;tithe 12;"
            + "back counted-(rich+piece=0);");
        Check.due("no last one", t.tenant(0, 1), -1);
        Check.due("any one", t.tenant(0, 5), 3);
        t.think(0, 1);
        Check.due("b was last: none may follow", t.tenant(0, 5), 0);
        Check.due("b was last: rich and piece are its", t.gate(0), 1);
        Check.due("no last one again", t.tenant(0, 1), -1);
        Check.due("any one again", t.tenant(0, 5), 3);
        t.think(0, 0);
        Check.due("a was last", t.gate(0), 2);
        Check.due("none was last: rich and piece are 0", t.gate(0), 1);
    }

    private static void noneMayFollow() {
        TithedThoughts t = Check.told(TWO + "tenant p plain;tithe 3;");
        Check.due("all are dead", t.dead(), 3);
        Check.due("no ring", t.ring(0), -1);
        Check.none("no row of two", () -> t.best(0, 2, -1));
        Check.due("never a tithe", t.tithed(0, 0), -1);
        Check.due("no way of two", t.ways(0, 0, 2), 0);
        Check.due("all is lost", t.chance(0, 0), 0);
        t.think(0, 0);
        Check.none("no row of one", () -> t.best(0, 1, -1));
        Check.due("no way of one", t.ways(0, 0, 1), 0);
        Check.due("nothing to share out to", t.chance(0, 0), 0);
        Check.due("nothing is safe", t.safe(0), 0);
        Check.due("nothing can be thought", t.tenant(0, 5), 0);
    }

    private static void nothingKept() {
        TithedThoughts t = Check.told(TWO + Texts.tenants(5, "plain"));
        for (int i = 0; i < 5; i++) {
            Check.due("keeps none", t.keeps(i, 1), 0);
            Check.due("no dowry", t.dowry(i), 0);
            Check.due("with nobody", t.match(i), i);
            Check.no("nothing to pool", t.pool(i, 1));
        }
        Check.due("pairs bring nothing", t.match(-1), 0);
        Check.due("of equal ones the first", t.poorest(), 0);
        Check.due("by none", t.givers(), -1);
        Check.due("no holders", t.holders(1), 0);
        Check.due("nothing can be undone", t.count(10), 0);
    }

    private static void allRan() {
        TithedThoughts t = Check.told(TWO + "follows b b;tenant r runner;tenant q runner;tithe 2;runs 0;engine 1;");
        for (int i = 0; i < 2; i++) {
            t.think(i, 1);
            t.think(i, 1);
        }
        Check.due("both ran", t.count(5), 3);
        Check.due("nobody is the poorest", t.poorest(), -1);
        Check.due("who ran is a holder", t.holders(1), 3);
        Check.due("who ran gives nothing", t.givers(), -1);
        Check.due("they are matched", t.match(-1), 16);
        Check.due("no more by draws", t.lives(5, 99, 2), 0);
        Check.due("they ran by draws, too", t.lives(5, 99, 1), 3);
    }

    // ---- nothing that can be undone

    /** "false: nothing can be", "nothing can be undone when one is gone back to" */
    private static void nothingUndone() {
        TithedThoughts t = Check.told(TWO + "tenant p plain;");
        Check.no("none was done", t.undo());
        t.think(0, 0);
        Check.yes("one was done", t.undo());
        Check.no("it is undone", t.undo());
        t.mark(0, false);
        t.think(0, 0);
        t.mark(0, true);
        Check.no("a mark was gone back to", t.undo());
        t.think(0, 0);
        Check.due("an abbey", Check.abbey(t, TWO + "tenant p plain;"), 0);
        Check.no("an abbey was told", t.undo());
    }

    /** "nothing is on it (back)" */
    private static void nothingOnMarks() {
        TithedThoughts t = Check.told(TWO + "tenant p plain;");
        for (int laid = 0; laid < 4; laid++) {
            for (int mark = laid; mark < 4; mark++) {
                Check.no("nothing is on " + mark, t.mark(mark, true));
            }
            Check.yes("lay " + laid, t.mark(laid, false));
        }
        Check.due("an abbey", Check.abbey(t, TWO), 0);
        for (int mark = 0; mark < 4; mark++) {
            Check.no("nothing is on it any more", t.mark(mark, true));
        }
    }
}
