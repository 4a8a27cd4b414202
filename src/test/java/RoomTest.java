import java.lang.management.ManagementFactory;
import java.util.function.IntSupplier;

/** No call makes objects of its own: what a run needs is made with the object, and is small. */
public final class RoomTest {
    private static final String ABBEY = "thought a worth 4 part 1;thought b worth 3 part 2;thought c worth 0 part 3;"
        + "thought d worth 12 part 0;follows a a;follows b a;follows c a;follows d a;follows a b;follows b b;"
        + "tenant p plain;tenant q simple;tenant r clever;tenant s runner;tithe 3;gains rich+counted*(barn+1);";

    public static void main(String[] args) {
        com.sun.management.ThreadMXBean threads = (com.sun.management.ThreadMXBean) ManagementFactory.getThreadMXBean();
        new TithedThoughts();
        long before = threads.getCurrentThreadAllocatedBytes();
        TithedThoughts t = new TithedThoughts();
        long made = threads.getCurrentThreadAllocatedBytes() - before;
        // Some 10,000 elements of at most eight bytes.
        Check.yes("a new object has " + made + " bytes", made < 80000);
        IntSupplier[] calls = calls(t);
        long[] abbey = packed(ABBEY);
        long[] years = packed("think p a;gate p;think q b;pool p a;");
        use(t, abbey, years, calls);
        before = threads.getCurrentThreadAllocatedBytes();
        use(t, abbey, years, calls);
        long used = threads.getCurrentThreadAllocatedBytes() - before;
        Check.yes("all calls made " + used + " bytes", used < 4000);
        Check.finish();
    }

    private static long[] packed(String text) {
        long[] longs = new long[(text.length() + 23) / 24 * 3];
        for (int i = 0; i < longs.length; i++) {
            longs[i] = Check.packed(text, i * 8);
        }
        return longs;
    }

    private static void feed(TithedThoughts t, long[] longs) {
        for (int i = 0; i + 2 < longs.length; i += 3) {
            t.feed(longs[i], longs[i + 1], longs[i + 2]);
        }
    }

    private static void use(TithedThoughts t, long[] abbey, long[] years, IntSupplier[] calls) {
        feed(t, abbey);
        Check.due("abbey", t.abbey(), 0);
        feed(t, years);
        Check.due("years", t.years(), 0);
        for (IntSupplier call : calls) {
            for (int i = 0; i < 10; i++) {
                call.getAsInt();
            }
        }
    }

    private static IntSupplier[] calls(TithedThoughts t) {
        return new IntSupplier[] {
            () -> t.think(0, 0), () -> t.think(2, 0), () -> t.gate(0), () -> t.pool(0, 0) ? 1 : 0,
            () -> t.undo() ? 1 : 0, () -> t.judged(2), () -> t.best(0, 5, -1), () -> t.best(2, 5, 4),
            () -> t.tithed(0, 0), () -> t.ways(0, 0, 9), () -> t.safe(0), () -> t.holders(1), t::poorest, t::lacks,
            t::givers, () -> t.dowry(0), () -> t.match(0), () -> t.guess(0, true) ? 1 : 0, t::fits, t::ask,
            () -> t.chance(0, 0), t::dead, () -> t.ring(0), () -> t.rests(1, 1, 1, -1), () -> t.other(5),
            () -> t.lives(1, 99, 2), () -> t.mark(1, false) ? 1 : 0, () -> t.mark(1, true) ? 1 : 0, () -> t.count(7),
            () -> t.thought(0, 2), () -> t.tenant(0, 5), () -> t.keeps(0, 0)};
    }
}
