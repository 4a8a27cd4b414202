import java.util.NoSuchElementException;
import java.util.Random;

/** Any call with any arguments, in any state: nothing is thrown but NoSuchElementException where it is promised. */
public final class AnyCallTest {
    private static final int[] EDGES = {Integer.MIN_VALUE, Integer.MIN_VALUE + 1, -65536, -1001, -1000, -33, -32, -31, -9,
        -2, -1, 0, 1, 2, 3, 4, 5, 6, 7, 8, 9, 10, 11, 12, 13, 16, 31, 32, 33, 40, 63, 64, 99, 100, 9999, 10000, 65536,
        Integer.MAX_VALUE - 1, Integer.MAX_VALUE};
    private static final String[] TEXTS = {"", ";", "gate p;think k d;think p b;pool p b;", "tithe 2;", Busy.ABBEY,
        "gains 1<2 and 3=4 or not (5-6)*7;", "gains ((((", "back counted+", "thought a worth 20 part 6;"};

    private final Random random;
    private final TithedThoughts t = new TithedThoughts();

    private AnyCallTest(long seed) {
        random = new Random(seed);
    }

    public static void main(String[] args) {
        for (int run = 0; run < 400; run++) {
            new AnyCallTest(run).go(run);
        }
        Check.finish();
    }

    private void go(int run) {
        if (run % 2 == 0) {
            Check.abbey(t, run % 4 == 0 ? Busy.ABBEY : fullAbbey());
        }
        for (int i = 0; i < 400; i++) {
            int kind = random.nextInt(36);
            String thrown = "";
            try {
                call(kind);
            } catch (NoSuchElementException e) {
                thrown = kind < 4 ? "" : e.toString();
            } catch (RuntimeException e) {
                thrown = e.toString();
            }
            Check.yes("run " + run + ", call of kind " + kind + " threw " + thrown, thrown.isEmpty());
        }
    }

    private static String fullAbbey() {
        return Texts.thoughts(8) + Texts.allFollow("abcdefgh").substring(0, 12 * 40) + Texts.tenants(5, "clever")
            + "tithe 12;runs 0;engine 6;";
    }

    private int any() {
        int way = random.nextInt(4);
        return way == 0 ? random.nextInt() : way == 1 ? EDGES[random.nextInt(EDGES.length)] : random.nextInt(10) - 1;
    }

    private long anyBytes() {
        if (random.nextInt(3) > 0) {
            return random.nextLong();
        }
        String text = TEXTS[random.nextInt(TEXTS.length)];
        return Check.packed(text, random.nextInt(text.length() + 1));
    }

    private void call(int kind) {
        boolean flag = random.nextBoolean();
        switch (kind) {
            case 0: t.judged(any()); break;
            case 1: t.best(any(), any(), any()); break;
            case 2: t.rests(any(), any(), any(), any()); break;
            case 3: t.lives(any(), any(), any()); break;
            case 4: t.feed(anyBytes(), anyBytes(), anyBytes()); break;
            case 5: t.tithed(any(), any()); break;
            case 6: t.ways(any(), any(), any()); break;
            case 7: t.safe(any()); break;
            case 8: t.holders(any()); break;
            case 9: t.poorest(); break;
            case 10: t.lacks(); break;
            case 11: t.givers(); break;
            case 12: t.dowry(any()); break;
            case 13: t.match(any()); break;
            case 14: t.guess(any(), flag); break;
            case 15: t.fits(); break;
            case 16: t.ask(); break;
            case 17: t.chance(any(), any()); break;
            case 18: t.dead(); break;
            case 19: t.ring(any()); break;
            case 20: t.other(any()); break;
            case 21: t.mark(any(), flag); break;
            case 22: t.count(any()); break;
            case 23: t.thought(any(), any()); break;
            case 24: t.tenant(any(), any()); break;
            case 25: t.keeps(any(), any()); break;
            case 26: t.gate(any()); break;
            case 27: t.pool(any(), any()); break;
            case 28: t.undo(); break;
            case 29: read(flag); break;
            default: t.think(any(), any()); break;
        }
    }

    /** The tape as it lies there, or, more seldom, with a text of its own. */
    private void read(boolean asYears) {
        if (random.nextInt(4) == 0) {
            Check.feed(t, TEXTS[random.nextInt(TEXTS.length)]);
        }
        if (asYears) {
            t.years();
        } else if (random.nextInt(3) == 0) {
            t.abbey();
        }
    }
}
