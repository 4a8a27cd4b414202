import java.util.List;
import java.util.NoSuchElementException;
import java.util.function.Consumer;
import java.util.function.Function;
import java.util.function.IntSupplier;
import java.util.function.Supplier;

/**
 * Two objects with the same calls behind them, of which the second gets one call more: if that changes nothing, both
 * show the same, however they are looked at. Each look takes new twins, as looking on (undoing, going back to marks)
 * changes them, and an object is used for 512 calls at most.
 */
final class Twins {
    private static final List<Function<TithedThoughts, String>> LOOKS = List.of(Twins::state, Twins::questions,
        Twins::undone, Twins::marked, Twins::goneOn, Twins::tapeAsAbbey, Twins::tapeAsYears);

    private Twins() {
    }

    static void unchanged(String call, Supplier<TithedThoughts> make, Consumer<TithedThoughts> more) {
        alike("unchanged by " + call, make, () -> with(make, more));
    }

    /** Two objects that came by different calls to where all that can be seen of them is the same. */
    static void alike(String why, Supplier<TithedThoughts> one, Supplier<TithedThoughts> other) {
        for (int look = 0; look < LOOKS.size(); look++) {
            String seen = LOOKS.get(look).apply(one.get());
            Check.yes(why + ", look " + look, seen.equals(LOOKS.get(look).apply(other.get())));
        }
    }

    /** Whether one look at least tells the twins apart. */
    static boolean differ(Supplier<TithedThoughts> make, Consumer<TithedThoughts> more) {
        for (Function<TithedThoughts, String> look : LOOKS) {
            if (!look.apply(make.get()).equals(look.apply(with(make, more)))) {
                return true;
            }
        }
        return false;
    }

    private static TithedThoughts with(Supplier<TithedThoughts> make, Consumer<TithedThoughts> more) {
        TithedThoughts t = make.get();
        more.accept(t);
        return t;
    }

    private static String asked(IntSupplier call) {
        try {
            return call.getAsInt() + " ";
        } catch (NoSuchElementException e) {
            return "none ";
        }
    }

    private static int bit(boolean answer) {
        return answer ? 1 : 0;
    }

    static String state(TithedThoughts t) {
        StringBuilder s = new StringBuilder();
        int thoughts = t.count(0);
        int tenants = t.count(1);
        for (int what = 2; what < 12; what++) {
            s.append(t.count(what)).append(' ');
        }
        for (int i = 0; i < thoughts; i++) {
            for (int what = 0; what < 4; what++) {
                s.append(t.thought(i, what)).append(' ');
            }
        }
        for (int i = 0; i < tenants; i++) {
            for (int what = 0; what < 6; what++) {
                s.append(t.tenant(i, what)).append(' ');
            }
            for (int k = 0; k < thoughts; k++) {
                s.append(t.keeps(i, k)).append(' ');
            }
        }
        return s.toString();
    }

    private static String aboutAll(TithedThoughts t) {
        StringBuilder s = new StringBuilder();
        for (int what = 0; what < 3; what++) {
            s.append(t.judged(what)).append(' ').append(t.lives(77, 9, what)).append(' ');
        }
        for (int part = 1; part <= 6; part++) {
            s.append(t.holders(part)).append(' ');
        }
        for (int tithe = 2; tithe <= 12; tithe++) {
            s.append(t.other(tithe)).append(' ');
        }
        s.append(t.poorest()).append(' ').append(t.lacks()).append(' ').append(t.givers()).append(' ').append(t.fits());
        s.append(' ').append(t.ask()).append(' ').append(t.dead()).append(' ').append(t.match(-1)).append(' ');
        return s.toString();
    }

    static String questions(TithedThoughts t) {
        StringBuilder s = new StringBuilder(aboutAll(t));
        int thoughts = t.count(0);
        int tenants = t.count(1);
        for (int i = 0; i < thoughts; i++) {
            s.append(t.ring(i)).append(' ');
        }
        for (int i = 0; i < tenants; i++) {
            int who = i;
            s.append(t.safe(i)).append(' ').append(t.dowry(i)).append(' ').append(t.match(i)).append(' ');
            for (int what = -1; what < 4; what++) {
                int w = what;
                s.append(asked(() -> t.best(who, 4, w)));
            }
            for (int k = 0; k < thoughts; k++) {
                s.append(t.tithed(i, k)).append(' ').append(t.ways(i, k, 3)).append(' ').append(t.chance(i, k)).append(' ');
            }
        }
        return s.toString();
    }

    private static String undone(TithedThoughts t) {
        StringBuilder s = new StringBuilder();
        int tenants = t.count(1);
        for (int i = 0; i < 17; i++) {
            s.append(bit(t.undo())).append(' ').append(t.count(6)).append(' ').append(t.count(5)).append(' ');
            for (int tenant = 0; tenant < tenants; tenant++) {
                s.append(t.tenant(tenant, 1)).append(' ').append(t.tenant(tenant, 2)).append(' ');
            }
        }
        return s.append(state(t)).toString();
    }

    private static String marked(TithedThoughts t) {
        StringBuilder s = new StringBuilder();
        for (int mark = 0; mark < 4; mark++) {
            s.append(bit(t.mark(mark, true))).append(' ').append(t.count(10)).append(' ').append(t.judged(2)).append(' ');
            s.append(t.fits()).append(' ').append(state(t));
        }
        return s.toString();
    }

    /** What is counted of a clever one is seen by her next tithe alone, a simple one's first thought likewise. */
    private static String goneOn(TithedThoughts t) {
        StringBuilder s = new StringBuilder();
        int tenants = t.count(1);
        for (int tenant = 0; tenant < tenants; tenant++) {
            for (int i = 0; i < 8; i++) {
                s.append(t.think(tenant, i % 4)).append(' ');
            }
            s.append(t.gate(tenant)).append(' ').append(t.think(tenant, 3)).append(' ').append(t.think(tenant, 0)).append(' ');
        }
        s.append(bit(t.guess(0, true))).append(' ').append(t.fits()).append(' ');
        return s.append(state(t)).toString();
    }

    private static String tapeAsAbbey(TithedThoughts t) {
        return Check.feed(t, "thought z worth 9 part 1;") + " " + t.abbey() + " " + state(t) + questions(t);
    }

    private static String tapeAsYears(TithedThoughts t) {
        return Check.feed(t, "gate q;") + " " + t.years() + " " + state(t) + questions(t);
    }
}
