/** Full: as much of each thing as the document allows holds whole, and one more is as it says. */
public final class FullTest {
    private static final String ONE = "thought a worth 1 part 0;follows a a;tenant p plain;";

    public static void main(String[] args) {
        lastSignOfTheTape();
        signsBeyondTheTape();
        textOf1000Signs();
        signs();
        eightThoughts();
        ninthThought();
        allBehindAll();
        fiveTenants();
        sixthTenant();
        eightOfFive();
        fortyLines();
        line41();
        sixteenUndone();
        ringOfUndone();
        eightGuesses();
        fourMarks();
        withinFour();
        withinFive();
        wordsOf8();
        numbersOf4();
        reservedNames();
        twelveCounted();
        calls512();
        Check.finish();
    }

    // ---- the TAPE

    private static String blanks(int many) {
        return " ".repeat(many);
    }

    /** "The TAPE has at most 1,000 signs": the 1,000th is read. */
    private static void lastSignOfTheTape() {
        TithedThoughts t = new TithedThoughts();
        Check.due("999 signs", Check.feed(t, blanks(991) + "tithe 11"), 999);
        Check.due("the 1,000th", Check.feed(t, ";"), 1000);
        Check.due("abbey", t.abbey(), 0);
        Check.due("told", t.count(2), 11);
    }

    /** "what is beyond 1,000 [is] left out": within a long, a call, and by later calls. */
    private static void signsBeyondTheTape() {
        TithedThoughts t = new TithedThoughts();
        Check.feed(t, blanks(995));
        long eight = Check.packed("tithe 12", 0);
        Check.due("five of 24", t.feed(eight, eight, eight), 1000);
        Check.due("none of 24", t.feed(eight, eight, eight), 1000);
        Check.due("count", t.count(11), 1000);
        Check.due("the end is at 1,000: a number is wanted there", t.abbey(), 1 + 16 * 1000);
        Check.due("room again", t.feed(eight, 0, 0), 8);
        Check.due("the end is at 8", t.abbey(), 1 + 16 * 8);
    }

    private static void textOf1000Signs() {
        String head = ONE + "tithe 12;gains 0";
        int pairs = (1000 - head.length() - 1) / 2;
        String text = head + "+1".repeat(pairs);
        TithedThoughts t = Check.told(text + blanks(999 - text.length()) + ";");
        t.think(0, 0);
        Check.due("a law to the end of the tape", t.tenant(0, 3), 99);
        String minus = ONE + "gains 9*(0" + "-1".repeat(400) + "+407);";
        TithedThoughts u = Check.told(minus);
        u.think(0, 0);
        Check.due("all 400 are taken off", u.tenant(0, 3), 63);
    }

    /** "10 and 32 .. 126": each of 256 bytes, and which of them are tokens. */
    private static void signs() {
        for (int sign = 0; sign < 256; sign++) {
            TithedThoughts t = new TithedThoughts();
            boolean stays = sign == 10 || sign >= 32 && sign <= 126;
            Check.due("sign " + sign, t.feed((long) sign << 56, (long) sign << 24, sign), stays ? 3 : 0);
            int fault = t.abbey();
            boolean blank = sign == 10 || sign == 32;
            Check.due("three of " + sign + " as an abbey", fault, stays && !blank ? 1 : 0);
        }
        for (int sign = 33; sign < 127; sign++) {
            boolean digit = sign >= '0' && sign <= '9';
            boolean joins = "<=+-*".indexOf(sign) >= 0;
            TithedThoughts t = new TithedThoughts();
            int want = digit || joins ? 0 : sign == ';' ? 1 + 16 * 8 : 1 + 16 * 7;
            Check.due("behind a number: " + (char) sign, Check.abbey(t, "gains 1" + (char) sign + "1;"), want);
        }
    }

    // ---- the ABBEY

    /** "thought: 8 at most, numbered as told" */
    private static void eightThoughts() {
        TithedThoughts t = Check.told(Texts.thoughts(8) + Texts.behind('h', "ah") + "tenant p plain;");
        Check.due("eight", t.count(0), 8);
        for (int i = 0; i < 8; i++) {
            Check.due("worth of " + i, t.thought(i, 0), i + 1);
        }
        Check.due("behind the last one", t.thought(7, 2), 129);
        Check.due("any of eight", t.tenant(0, 5), 255);
        Check.due("think the last one", t.think(0, 7), -2);
        Check.due("keeps the last one", t.keeps(0, 7), 1);
        Check.due("a or h", t.tenant(0, 5), 129);
        Check.yes("pool the last one", t.pool(0, 7));
        Check.due("in the barn", t.thought(7, 3), 1);
        Check.due("no ninth", t.thought(8, 0), -1);
    }

    /** "the words thought of a ninth": 5 at that word, whatever is behind it. */
    private static void ninthThought() {
        String eight = Texts.thoughts(8);
        int fault = 5 + 16 * eight.length();
        for (String ninth : new String[] {"thought i worth 1 part 1;", "thought", "thought a worth 1 part 1;",
            "thought ;", "thought i worth 21"}) {
            Check.due(ninth, Check.abbey(new TithedThoughts(), eight + ninth), fault);
        }
        Check.due("what stands ahead is first", Check.abbey(new TithedThoughts(), "x" + eight + "thought"), 1);
    }

    /** "each two once (so)": 64 of eight, of which none may be told again. */
    private static void allBehindAll() {
        String text = Texts.thoughts(8) + Texts.allFollow("abcdefgh");
        TithedThoughts t = Check.told(text);
        for (int i = 0; i < 8; i++) {
            Check.due("behind " + i, t.thought(i, 2), 255);
        }
        Check.due("again", Check.abbey(t, text + "follows c f;"), 3 + 16 * (text.length() + 10));
        Check.due("again, itself", Check.abbey(t, text + "follows h h;"), 3 + 16 * (text.length() + 10));
    }

    /** "tenant: 5 at most, numbered as told" */
    private static void fiveTenants() {
        TithedThoughts t = Check.told(Texts.thoughts(1) + "tenant p plain;tenant q simple;tenant r clever;"
            + "tenant s runner;tenant t plain;");
        Check.due("five", t.count(1), 5);
        int[] kinds = {0, 1, 2, 3, 0};
        for (int i = 0; i < 5; i++) {
            Check.due("kind of " + i, t.tenant(i, 0), kinds[i]);
            Check.due("think " + i, t.think(i, 0), i == 1 ? 0 : -2);
        }
        Check.due("keeps the last one", t.keeps(4, 0), 1);
        Check.due("holders", t.holders(1), 1 + 4 + 8 + 16);
        Check.due("no sixth", t.tenant(5, 0), -1000);
    }

    /** "tenant of a sixth": 5 at that word. */
    private static void sixthTenant() {
        String five = Texts.tenants(5, "plain");
        int fault = 5 + 16 * five.length();
        for (String sixth : new String[] {"tenant u plain;", "tenant", "tenant p plain;", "tenant ;", "tenant u king"}) {
            Check.due(sixth, Check.abbey(new TithedThoughts(), five + sixth), fault);
        }
    }

    /** Eight thoughts that all may follow all, and five tenants who keep them: each question looks at all of them. */
    private static void eightOfFive() {
        String text = Texts.thoughts(8) + Texts.tenants(4, "plain") + "tenant t runner;tithe 12;runs 7;";
        TithedThoughts t = Check.told(text + Texts.ring("abcdefgh"));
        for (int i = 0; i < 5; i++) {
            for (int k = 0; k < 8; k++) {
                Check.due("think", t.think(i, k), -2);
            }
            Check.due("dowry", t.dowry(i), 36);
            Check.due("gained", t.tenant(i, 3), 36);
            Check.due("holder", t.holders(1), (2 << i) - 1);
        }
        Check.due("two pairs", t.match(-1), 2 * 36 * 36);
        Check.due("the first has nobody", t.match(0), 0);
        Check.due("the last one is with the fourth", t.match(4), 3);
        for (int k = 0; k < 8; k++) {
            Check.yes("pool", t.pool(4, k));
        }
        Check.due("worth of all eight", t.count(7), 36);
        Check.due("eight", t.count(6), 8);
        Check.due("the last one is the poorest", t.poorest(), 4);
        Check.due("parts 2 and 3", t.lacks(), 6);
        Check.due("the last one's next tithe", t.tithed(4, 3), 4);
        Check.due("the first four behind h", t.best(4, 4, -1), 1 + 2 + 3);
        for (int i = 0; i < 4; i++) {
            Check.due("a to d", t.think(4, i), i < 3 ? -2 : 3);
        }
        Check.due("from d to h, and round", t.best(4, 5, -1), 5 + 6 + 7 + 8 + 1);
        Check.due("h is its fourth", t.best(4, 5, 3), 7);
    }

    // ---- YEARS

    /** "40 lines at most": the 40th is judged, too. */
    private static void fortyLines() {
        TithedThoughts t = Check.told(ONE + "tenant s simple;tithe 12;");
        Check.due("years", Check.years(t, "gate p;".repeat(39) + "think s a;"), 0);
        Check.due("lines", t.count(8), 40);
        Check.due("the tithe comes by the 40th", t.judged(1), 39);
        Check.due("years", Check.years(t, "think p a;".repeat(39) + "pool s a;"), 0);
        Check.due("the 40th can't be", t.judged(0), 39);
        Check.due("the third tithe by the 36th", t.other(12), 3);
        Check.due("the 40th is no think", t.other(10), 3);
        Check.due("years", Check.years(t, "think p a;".repeat(40)), 0);
        Check.due("the fourth tithe by the 40th", t.other(10), 4);
    }

    /** "the first word of a 41st line of YEARS": 5, and the years stay as they were. */
    private static void line41() {
        TithedThoughts t = Check.told(ONE);
        String forty = "gate p;".repeat(40);
        Check.due("one line", Check.years(t, "pool p a;"), 0);
        for (String more : new String[] {"gate p;", "think p a;", "pool p a;", "gate", "think ;", "pool x"}) {
            Check.due("41st: " + more, Check.years(t, forty + more), 5 + 16 * 280);
            Check.due("one line still", t.count(8), 1);
        }
        Check.due("no line begins so", Check.years(t, forty + "tithe"), 1 + 16 * 280);
        Check.due("an earlier fault is first", Check.years(t, "gate x;" + forty), 2 + 16 * 5);
        Check.due("forty and blanks", Check.years(t, forty + " \n"), 0);
        Check.due("forty lines", t.count(8), 40);
    }

    // ---- by hand

    /** "UNDO: all of these, the last 16, one by one." */
    private static void sixteenUndone() {
        for (int done = 14; done <= 19; done++) {
            TithedThoughts t = Check.told(ONE + "tithe 12;gains 1;");
            for (int i = 0; i < done; i++) {
                t.gate(0);
                t.think(0, 0);
            }
            int can = Math.min(16, 2 * done);
            Check.due("what can be undone", t.count(10), can);
            for (int i = 1; i <= can; i++) {
                Check.yes("undo", t.undo());
                Check.due("gained", t.tenant(0, 3), done - (i + 1) / 2);
                Check.due("left to be undone", t.count(10), can - i);
            }
            Check.no("a seventeenth", t.undo());
            Check.due("gained", t.tenant(0, 3), done - can / 2);
        }
        for (int done = 15; done <= 17; done++) {
            TithedThoughts t = Check.told(ONE + "tithe 12;gains 1;");
            for (int i = 0; i < done; i++) {
                t.think(0, 0);
            }
            Check.due("of " + done, t.count(10), Math.min(done, 16));
        }
    }

    /** What is undone makes room: the 16 are those that were done last and still stand. */
    private static void ringOfUndone() {
        TithedThoughts t = Check.told(ONE + "tithe 12;");
        int kept = 0;
        for (int round = 0; round < 9; round++) {
            for (int i = 0; i < 7; i++) {
                t.think(0, 0);
                t.gate(0);
                kept++;
            }
            for (int i = 0; i < 4; i++) {
                Check.yes("undo", t.undo());
            }
            kept -= 2;
            Check.due("keeps", t.keeps(0, 0), kept);
            Check.due("can be undone", t.count(10), round == 0 ? 10 : 12);
        }
        for (int i = 0; i < 12; i++) {
            Check.yes("undo", t.undo());
        }
        Check.due("keeps", t.keeps(0, 0), kept - 6);
        Check.no("no more", t.undo());
    }

    /** "8 at most", "false: .. 8 there are" */
    private static void eightGuesses() {
        TithedThoughts t = Check.told(Texts.thoughts(8) + Texts.allFollow("abcdefg") + "follows h a;");
        for (int i = 0; i < 7; i++) {
            Check.yes("guess " + i, t.guess(i, true));
            Check.due("guesses", t.count(9), i + 1);
        }
        Check.due("a to g", t.fits(), 127);
        Check.yes("the eighth counts, too", t.guess(7, true));
        Check.due("a alone", t.fits(), 1);
        Check.no("a ninth", t.guess(7, false));
        Check.no("a ninth that is no other", t.guess(0, true));
        Check.due("eight", t.count(9), 8);
        Check.due("a still", t.fits(), 1);
    }

    /** "MARKS 0 to 3 hold how it is, the YEARS, GUESSES": four at once, each its own. */
    private static void fourMarks() {
        TithedThoughts t = Check.told(ONE + "tithe 12;");
        for (int mark = 0; mark < 4; mark++) {
            Check.yes("lay " + mark, t.mark(mark, false));
            t.think(0, 0);
            t.guess(0, mark < 2);
            Check.due("years", Check.years(t, "gate p;".repeat(mark + 1)), 0);
        }
        for (int mark : new int[] {2, 0, 3, 1, 3, 3, 0}) {
            Check.yes("back to " + mark, t.mark(mark, true));
            Check.due("counted", t.tenant(0, 2), mark);
            Check.due("guesses", t.count(9), mark);
            Check.due("lines", t.count(8), mark);
            Check.due("fits", t.fits(), mark < 3 ? 1 : 0);
            Check.due("nothing can be undone", t.count(10), 0);
            t.think(0, 0);
            t.guess(0, false);
        }
    }

    // ---- "no PART lies within 5 of not and ( )"

    private static void law(String law, int want) {
        TithedThoughts t = Check.told(ONE + "gains " + law + ";");
        t.think(0, 0);
        Check.due(law, t.tenant(0, 3), want);
    }

    private static void withinFour() {
        law("((((7))))", 7);
        law("not not not not 7", 1);
        law("not(not(7))", 1);
        law("(not(not 7))", 1);
        law("((((7)+1)+1)+1)+((((7))))", 17);
        law("not not not not 0+not not not not 0+1", 1);
        TithedThoughts t = Check.told(ONE + "back ((((1))));");
        t.think(0, 0);
        t.think(0, 0);
        Check.due("in back", t.gate(0), 1);
    }

    /** "5 .. not, or a PART, within 5 others": at its first token; what is no PART there is 1. */
    private static void withinFive() {
        String[] laws = {"(((((7)))));", "(((((rich)))));", "(((((not 7)))));", "((((((7))))));",
            "((((not 7))));", "((((not not 7))));", "not not not not not 7;", "not not not not not not 7;",
            "not not not not(7);", "not(not(not 7));", "((((1+not 7))));", "((((7+(7)))));", "((((1*(1)<2))));"};
        int[] places = {5, 5, 5, 5, 8, 8, 20, 20, 16, 12, 10, 7, 7};
        for (int i = 0; i < laws.length; i++) {
            for (String word : new String[] {"gains ", "back "}) {
                int place = word.length() + places[i];
                Check.due(word + laws[i], Check.abbey(new TithedThoughts(), word + laws[i]), 5 + 16 * place);
            }
        }
        for (String law : new String[] {"(((((", "(((((;", "((((()", "(((((x", "(((((and", "(((((+", "(((((12345"}) {
            Check.due(law, Check.abbey(new TithedThoughts(), "gains " + law), 1 + 16 * 11);
        }
    }

    // ---- tokens

    /** "WORDS (letters a .. z, 8 at most)": "a longer WORD .. at its first sign" is none. */
    private static void wordsOf8() {
        String text = "thought abcdefgh worth 1 part 0;thought stuvwxyz worth 2 part 0;follows abcdefgh stuvwxyz;"
            + "tenant zzzzzzzz plain;tenant aaaaaaaa plain;";
        TithedThoughts t = Check.told(text);
        Check.due("behind the second", t.thought(1, 2), 1);
        Check.due("years", Check.years(t, "think zzzzzzzz stuvwxyz;pool aaaaaaaa abcdefgh;"), 0);
        Check.due("another one", Check.years(t, "think zzzzzzzy"), 2 + 16 * 6);
        Check.due("a shorter one", Check.years(t, "think zzzzzzz"), 2 + 16 * 6);
        Check.due("nine letters", Check.years(t, "think zzzzzzzzz"), 1 + 16 * 6);
        Check.due("nine letters", Check.abbey(t, "thought abcdefghi worth 1 part 0;"), 1 + 16 * 8);
        Check.due("many letters", Check.abbey(t, "thought " + "a".repeat(900)), 1 + 16 * 8);
        Check.due("followed words are one", Check.abbey(t, "tenanttenant"), 1);
        Check.due("letters and a digit are two", Check.abbey(t, "tenant abcdefgh1"), 1 + 16 * 15);
    }

    /** "NUMBERS (1 to 4 digits; a letter may stand right behind)" */
    private static void numbersOf4() {
        Check.due("0012", Check.told("tithe 0012;").count(2), 12);
        Check.due("002", Check.told("tithe 002;").count(2), 2);
        Check.due("five digits", Check.abbey(new TithedThoughts(), "tithe 00012;"), 1 + 16 * 6);
        Check.due("many digits", Check.abbey(new TithedThoughts(), "tithe " + "0".repeat(900)), 1 + 16 * 6);
        Check.due("five digits in a law", Check.abbey(new TithedThoughts(), "gains 10000;"), 1 + 16 * 6);
        law("9999-9998", 1);
        Check.due("a letter behind", Check.told("thought a worth 20part 6;").thought(0, 1), 6);
        law("1and 2or 0", 1);
        Check.due("four digits and a blank are two", Check.abbey(new TithedThoughts(), "gains 1234 5;"), 1 + 16 * 11);
    }

    /** "A NAME is another WORD than thought, worth, .." and facts may be names. */
    private static void reservedNames() {
        for (String word : new String[] {"thought", "worth", "part", "follows", "tenant", "tithe", "runs", "engine",
            "gains", "back", "think", "gate", "pool", "plain", "simple", "clever", "runner", "not", "and", "or"}) {
            TithedThoughts t = new TithedThoughts();
            Check.due("a thought " + word, Check.abbey(t, "thought " + word + " worth 1 part 0;"), 1 + 16 * 8);
            Check.due("a tenant " + word, Check.abbey(t, "tenant " + word + " plain;"), 1 + 16 * 7);
            Check.due("a name to think " + word, Check.years(t, "think " + word), 1 + 16 * 6);
            Check.due("nearly " + word, Check.abbey(t, "tenant " + word.substring(1) + "x plain;"), 0);
        }
        for (String word : new String[] {"counted", "rich", "piece", "barn"}) {
            Check.due("a thought " + word, Check.told("thought " + word + " worth 1 part 0;").count(0), 1);
            Check.due("a tenant " + word, Check.told("tenant " + word + " plain;").count(1), 1);
        }
    }

    // ---- counting

    /** Of a tithe of 12 a clever one has eleven counted; the first of the least is hers, wherever it stands. */
    private static void twelveCounted() {
        for (int least = 0; least < 12; least++) {
            TithedThoughts t = Check.told("thought h worth 20 part 0;thought l worth 0 part 0;thought m worth 0 part 0;"
                + "follows h h;follows l h;follows m h;follows h l;follows h m;follows m l;tenant k clever;tithe 12;");
            for (int i = 0; i < 12; i++) {
                int thought = i == least ? 1 : i == least + 1 ? 2 : 0;
                Check.due("counted", t.tenant(0, 2), i);
                Check.due("think " + i, t.think(0, thought), i == 11 ? 1 : -2);
            }
            Check.due("nothing is counted", t.tenant(0, 2), 0);
            Check.due("l is not kept", t.keeps(0, 1), 0);
            Check.due("m is", t.keeps(0, 2), least == 11 ? 0 : 1);
            Check.due("h is", t.keeps(0, 0), least == 11 ? 11 : 10);
        }
    }

    /** "An object is used for at most 512 calls": as many thoughts are counted right to the end. */
    private static void calls512() {
        TithedThoughts t = Check.told(ONE + "tithe 2;gains 99;");
        int used = 5;
        int thought = 0;
        for (; used < 508; used++) {
            thought++;
            Check.due("think", t.think(0, 0), thought % 2 == 0 ? 0 : -2);
        }
        Check.due("gained", t.tenant(0, 3), 99 * ((thought + 1) / 2));
        Check.due("kept", t.keeps(0, 0), (thought + 1) / 2);
        Check.due("in the barn", t.count(6), thought / 2);
        Check.due("in the barn, too", t.thought(0, 3), thought / 2);
    }
}
