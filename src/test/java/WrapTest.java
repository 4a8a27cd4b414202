/** What goes round or is held within bounds: ints, what is gained, what is counted, draws, what is shared out. */
public final class WrapTest {
    // 2147483647 in NUMBERS of four digits.
    private static final String MOST = "9999*9999*21+4790*9999+8416";
    private static final String ONE = "thought a worth 7 part 5;follows a a;tenant p plain;tithe 12;";

    public static void main(String[] args) {
        sumsWrap();
        productsWrap();
        wrappedCompared();
        truth();
        fromTheLeft();
        gainsHeld();
        gainedNotHeld();
        gainsHeldInBest();
        gainsHeldInYears();
        gainsHeldInLives();
        backHeld();
        backHeldInYears();
        backOfASimpleOne();
        backOfACleverOne();
        countedBeginsAnew();
        runsEdge();
        cleverStillKeeps();
        chanceCut();
        drawsWrap();
        undoneWraps();
        Check.finish();
    }

    private static void gain(String law, int want) {
        TithedThoughts t = Check.told(ONE + "gains " + law + ";");
        Check.due("think by " + law, t.think(0, 0), -2);
        Check.due("gained by " + law, t.tenant(0, 3), want);
    }

    // ---- "ints wrap"

    private static void sumsWrap() {
        gain(MOST, 99);
        gain(MOST + "-2147+2147", 99);
        gain(MOST + "+1", -99);
        gain(MOST + "+1+(" + MOST + ")+1", 0);
        gain("0-(" + MOST + ")", -99);
        gain("0-(" + MOST + ")-1", -99);
        gain("0-(" + MOST + ")-2", 99);
        gain(MOST + "+(" + MOST + ")", -2);
        gain(MOST + "+(" + MOST + ")+5", 3);
    }

    private static void productsWrap() {
        gain("4096*4096*127", 99);
        gain("4096*4096*128", -99);
        gain("4096*4096*256", 0);
        gain("4096*4096*256+3", 3);
        gain("(" + MOST + ")*2", -2);
        gain("(" + MOST + ")*(" + MOST + ")", 1);
        gain("(4096*4096*128)*(4096*4096*128)+5", 5);
    }

    private static void wrappedCompared() {
        gain(MOST + "+1<0", 1);
        gain("0<" + MOST, 1);
        gain(MOST + "=" + MOST + "+1", 0);
        gain("0-(" + MOST + ")-2=" + MOST, 1);
        gain("not(4096*4096*256)", 1);
        gain("not(4096*4096*128)", 0);
        gain("4096*4096*256 or 0", 0);
        gain("4096*4096*128 and 1", 1);
    }

    /** "Of not, and, or, < and = comes 1 or 0; what is not 0 is so" */
    private static void truth() {
        String[] values = {"0", "1", "2", "(0-1)", "9999"};
        for (int i = 0; i < values.length; i++) {
            gain("not " + values[i], i == 0 ? 1 : 0);
            gain("not not " + values[i], i == 0 ? 0 : 1);
            for (int k = 0; k < values.length; k++) {
                gain(values[i] + " and " + values[k], i > 0 && k > 0 ? 1 : 0);
                gain(values[i] + " or " + values[k], i > 0 || k > 0 ? 1 : 0);
                gain(values[i] + "=" + values[k], i == k ? 1 : 0);
            }
        }
        gain("1<2", 1);
        gain("2<2", 0);
        gain("3<2", 0);
        gain("(0-1)<0", 1);
    }

    /** "E: TEST { and TEST or or TEST }, from the left" */
    private static void fromTheLeft() {
        gain("1 or 1 and 0", 0);
        gain("1 or (1 and 0)", 1);
        gain("0 and 1 or 1", 1);
        gain("0 and (1 or 1)", 0);
        gain("9-5-3", 1);
        gain("9-(5-3)", 7);
        gain("2+3*4", 14);
        gain("not 1+2", 2);
        gain("not(1+2)", 0);
        gain("1+1=2 and 3<2+2", 1);
    }

    // ---- "gains the E of gains (-99 to 99 ..)"

    private static void gainsHeld() {
        gain("98", 98);
        gain("99", 99);
        gain("100", 99);
        gain("101", 99);
        gain("9999", 99);
        gain("0-98", -98);
        gain("0-99", -99);
        gain("0-100", -99);
        gain("0-9999", -99);
    }

    /** Each one's gain is held, what is gained altogether is not. */
    private static void gainedNotHeld() {
        TithedThoughts more = Check.told(ONE + "gains 500;");
        TithedThoughts less = Check.told(ONE + "gains 0-500;");
        for (int i = 1; i <= 11; i++) {
            more.think(0, 0);
            less.think(0, 0);
            Check.due("gained", more.tenant(0, 3), 99 * i);
            Check.due("lost", less.tenant(0, 3), -99 * i);
        }
    }

    private static void gainsHeldInBest() {
        TithedThoughts t = Check.told(ONE + "gains counted*50;");
        Check.due("50 and 99 and 99", t.best(0, 3, -1), 248);
        TithedThoughts minus = Check.told(ONE + "gains 0-counted*50;");
        Check.due("-50 and -99 and -99", minus.best(0, 3, -1), -248);
        // Both are held to 99: of equal ones the first.
        TithedThoughts equal = Check.told("thought a worth 10 part 0;thought b worth 20 part 0;tenant p plain;"
            + "gains rich*rich;");
        Check.due("how much", equal.best(0, 1, -1), 99);
        Check.due("the first", equal.best(0, 1, 0), 0);
    }

    private static void gainsHeldInYears() {
        TithedThoughts t = Check.told(ONE + "gains 100-counted*150;");
        Check.due("years", Check.years(t, "think p a;think p a;think p a;"), 0);
        Check.due("-50, -99, -99", t.judged(2), -248);
    }

    private static void gainsHeldInLives() {
        TithedThoughts t = Check.told(ONE + "gains 9999;");
        Check.due("eleven of twelve", t.lives(1, 12, 2), 99 * 11);
        t.think(0, 0);
        Check.due("by these alone", t.lives(1, 2, 2), 198);
    }

    // ---- "the E of back is counted then (0 to what it was ..)"

    private static void back(String law, int was, int want) {
        TithedThoughts t = Check.told(ONE + "back " + law + ";");
        for (int i = 0; i < was; i++) {
            t.think(0, 0);
        }
        Check.due("back " + law + " of " + was, t.gate(0), want);
        Check.due("counted by " + law + " of " + was, t.tenant(0, 2), want);
        Check.due("no last one", t.tenant(0, 1), -1);
    }

    private static void backHeld() {
        for (int was = 0; was <= 11; was++) {
            back("counted", was, was);
            back("counted+1", was, was);
            back("9999", was, was);
            back(MOST, was, was);
            back(MOST + "+1", was, 0);
            back("0-(" + MOST + ")-2", was, was);
            back("counted-1", was, Math.max(0, was - 1));
            back("0-1", was, 0);
            back("5", was, Math.min(was, 5));
            back("0", was, 0);
        }
        TithedThoughts untold = Check.told(ONE);
        untold.think(0, 0);
        Check.due("without back: 0", untold.gate(0), 0);
    }

    private static void backHeldInYears() {
        TithedThoughts t = Check.told(ONE + "back 9999;");
        Check.due("years", Check.years(t, "think p a;gate p;think p a;gate p;think p a;"), 0);
        Check.due("all three are counted", t.other(3), 1);
        Check.due("not more than three", t.other(4), 0);
        TithedThoughts none = Check.told(ONE + "back 0-9;");
        Check.due("years", Check.years(none, "think p a;gate p;think p a;gate p;think p a;"), 0);
        Check.due("none behind a gate", none.other(2), 0);
    }

    private static void backOfASimpleOne() {
        TithedThoughts t = Check.told("thought a worth 7 part 5;follows a a;tenant s simple;back 9;");
        t.think(0, 0);
        t.think(0, 0);
        Check.due("none is counted of him", t.tenant(0, 2), 0);
        Check.due("gate", t.gate(0), 0);
        Check.due("his first was given", t.think(0, 0), -2);
    }

    /** "of a clever one these are the last ones" */
    private static void backOfACleverOne() {
        for (int left = 0; left <= 4; left++) {
            TithedThoughts t = Check.told("thought a worth 1 part 0;thought b worth 2 part 0;thought c worth 3 part 0;"
                + "thought d worth 4 part 0;thought e worth 5 part 0;" + Texts.behind('a', "b") + Texts.behind('b', "c")
                + Texts.behind('c', "d") + Texts.behind('e', "e") + "tenant k clever;tithe 5;back " + left + ";");
            for (int i = 0; i < 4; i++) {
                t.think(0, i);
            }
            Check.due("left", t.gate(0), left);
            for (int i = left; i < 4; i++) {
                Check.due("none yet", t.think(0, 4), -2);
            }
            Check.due("the least of the last " + left, t.think(0, 4), left == 0 ? 4 : 4 - left);
        }
    }

    // ---- counting

    /** "If as many are counted as the tithe is there is a TITHE, and nothing is counted any more" */
    private static void countedBeginsAnew() {
        for (int tithe = 2; tithe <= 12; tithe++) {
            TithedThoughts t = Check.told("thought a worth 1 part 0;follows a a;tenant p plain;tenant k clever;"
                + "tenant r runner;runs 20;tithe " + tithe + ";");
            for (int who = 0; who < 3; who++) {
                for (int i = 1; i <= 2 * tithe + 1; i++) {
                    Check.due("think " + i + " of " + tithe, t.think(who, 0), i % tithe == 0 ? 0 : -2);
                    Check.due("counted", t.tenant(who, 2), i % tithe);
                }
            }
        }
    }

    /** "if its worth is more than runs he keeps it, and RAN" */
    private static void runsEdge() {
        for (int runs = 0; runs <= 20; runs++) {
            for (int worth = Math.max(0, runs - 1); worth <= Math.min(20, runs + 1); worth++) {
                TithedThoughts t = Check.told("thought a worth " + worth + " part 0;follows a a;tenant r runner;tithe 2;"
                    + "runs " + runs + ";");
                t.think(0, 0);
                boolean ran = worth > runs;
                Check.due(worth + " by " + runs, t.think(0, 0), ran ? -2 : 0);
                Check.due("ran", t.tenant(0, 4), ran ? 1 : 0);
                Check.due("keeps", t.keeps(0, 0), ran ? 2 : 1);
                Check.due("gained", t.tenant(0, 3), ran ? 2 * worth : worth);
                Check.due("in the barn", t.count(6), ran ? 0 : 1);
                Check.due("nothing is counted", t.tenant(0, 2), 0);
                Check.due("can think", t.tenant(0, 5), ran ? 0 : 1);
            }
        }
    }

    /** "she keeps one less of it, if she still keeps some": never less than none. */
    private static void cleverStillKeeps() {
        for (int pooled = 0; pooled <= 2; pooled++) {
            TithedThoughts t = Check.told("thought a worth 1 part 0;thought b worth 2 part 0;follows a a;follows b a;"
                + "tenant k clever;tithe 3;");
            t.think(0, 0);
            t.think(0, 0);
            for (int i = 0; i < pooled; i++) {
                Check.yes("pool", t.pool(0, 0));
            }
            Check.due("a is the tithe", t.think(0, 1), 0);
            Check.due("keeps", t.keeps(0, 0), Math.max(0, 1 - pooled));
            Check.due("in the barn", t.thought(0, 3), 1 + pooled);
            Check.due("what was gained stays", t.tenant(0, 3), 4);
        }
    }

    // ---- "alike, cut .. what is cut .. is lost"

    private static void chanceCut() {
        for (int many = 1; many <= 8; many++) {
            String names = "abcdefgh".substring(0, many);
            TithedThoughts t = Check.told(Texts.thoughts(many) + Texts.allFollow(names) + "tenant p plain;tithe 2;");
            int each = 1000000 / many / many * many;
            for (int i = 0; i < many; i++) {
                Check.due("chance of " + many, t.chance(0, i), each);
            }
            t.think(0, many - 1);
            Check.due("the next one of " + many, t.chance(0, 0), 1000000 / many);
        }
        TithedThoughts lost = Check.told(Texts.thoughts(7) + Texts.behind('a', "abcdefg") + "tenant p plain;tithe 12;");
        int has = 1000000;
        for (int i = 0; i < 12; i++) {
            has /= 7;
        }
        Check.due("all is cut away at last", lost.chance(0, 0), has);
        Check.due("nothing is left", has, 0);
    }

    // ---- "g becomes (g * 1103515245 + 12345) modulo 2147483648"

    private static int[] drawn(int seed, int steps, int tenants, int thoughts) {
        java.math.BigInteger g = java.math.BigInteger.valueOf(seed);
        java.math.BigInteger modulus = java.math.BigInteger.valueOf(2147483648L);
        int[] draws = new int[2 * steps];
        for (int i = 0; i < draws.length; i++) {
            g = g.multiply(java.math.BigInteger.valueOf(1103515245)).add(java.math.BigInteger.valueOf(12345)).mod(modulus);
            draws[i] = (int) (g.longValue() / 65536 % (i % 2 == 0 ? tenants : thoughts));
        }
        return draws;
    }

    private static void drawsWrap() {
        String text = Texts.thoughts(7) + Texts.allFollow("abcdefg") + Texts.tenants(3, "plain") + "tithe 12;gains rich;";
        for (int seed : new int[] {0, 1, 2, 5000, 9998, 9999}) {
            TithedThoughts t = Check.told(text);
            int[] draws = drawn(seed, 99, 3, 7);
            int[] counted = new int[3];
            int gained = 0;
            int tithes = 0;
            for (int i = 0; i < 99; i++) {
                int who = draws[2 * i];
                counted[who] = (counted[who] + 1) % 12;
                tithes += counted[who] == 0 ? 1 : 0;
                gained += counted[who] == 0 ? 0 : draws[2 * i + 1] + 1;
            }
            Check.due("tithes by " + seed, t.lives(seed, 99, 0), tithes);
            Check.due("gained by " + seed, t.lives(seed, 99, 2), gained);
        }
    }

    /** What was done first is forgotten first: 16 undone lead back to behind the 24th of 40, not to the beginning. */
    private static void undoneWraps() {
        TithedThoughts t = Check.told(ONE);
        for (int i = 0; i < 40; i++) {
            t.think(0, 0);
        }
        for (int i = 1; i <= 16; i++) {
            Check.yes("undo", t.undo());
            Check.due("counted", t.tenant(0, 2), (40 - i) % 12);
            Check.due("in the barn", t.count(6), (40 - i) / 12);
        }
        Check.no("no more", t.undo());
        Check.due("counted", t.tenant(0, 2), 0);
        Check.due("in the barn", t.count(6), 2);
    }
}
