import java.util.NoSuchElementException;
import java.util.function.IntSupplier;

/** What the tests share: feeding texts, comparing answers, ending with the exit code that is due. */
final class Check {
    private static int wrong = 0;
    private static int asked = 0;

    private Check() {
    }

    static void due(String call, long got, long want) {
        asked++;
        if (got != want) {
            wrong++;
            if (wrong <= 50) {
                System.out.println(call + " answered " + got + ", due is " + want);
            }
        }
    }

    static void yes(String call, boolean got) {
        due(call, got ? 1 : 0, 1);
    }

    static void no(String call, boolean got) {
        due(call, got ? 1 : 0, 0);
    }

    static void none(String call, IntSupplier supplier) {
        asked++;
        boolean thrown = false;
        try {
            supplier.getAsInt();
        } catch (NoSuchElementException e) {
            thrown = true;
        }
        if (!thrown) {
            wrong++;
            System.out.println(call + " did not throw NoSuchElementException");
        }
    }

    /** The text goes behind the tape, eight signs a long, filled up with zeros. */
    static int feed(TithedThoughts t, String text) {
        int length = t.count(11);
        for (int at = 0; at < text.length(); at += 24) {
            length = t.feed(packed(text, at), packed(text, at + 8), packed(text, at + 16));
        }
        return length;
    }

    static long packed(String text, int at) {
        long bytes = 0;
        for (int i = at; i < at + 8; i++) {
            bytes = bytes << 8 | (i < text.length() ? text.charAt(i) & 255 : 0);
        }
        return bytes;
    }

    static int abbey(TithedThoughts t, String text) {
        feed(t, text);
        return t.abbey();
    }

    static int years(TithedThoughts t, String text) {
        feed(t, text);
        return t.years();
    }

    /** A new object with this abbey. */
    static TithedThoughts told(String text) {
        TithedThoughts t = new TithedThoughts();
        due("abbey of " + text, abbey(t, text), 0);
        return t;
    }

    static void finish() {
        System.out.println(asked + " asked, " + wrong + " wrong");
        if (wrong != 0 || asked == 0) {
            System.exit(1);
        }
    }
}
