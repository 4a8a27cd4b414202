import java.util.ArrayList;
import java.util.List;
import java.util.NoSuchElementException;
import java.util.Random;
import java.util.function.IntSupplier;

/** Runs of drawn calls, on the class and on the plain model at once: all answers are alike. */
public final class ModelTest {
    private static final int THROWN = Integer.MIN_VALUE;
    private static final String[] NAMES = {"a", "bb", "ccc", "dddd", "eeeee", "ffffff", "ggggggg", "hhhhhhhh",
        "rich", "barn", "counted", "piece", "i", "j", "k"};
    private static final String[] PIECES = {";", "(", ")", "<", "=", "+", "-", "*", "not", "and", "or", "12", "0",
        "99999", "9999", "abcdefghi", "thought", "worth", "part", "follows", "tenant", "tithe", "runs", "engine",
        "gains", "back", "think", "gate", "pool", "plain", "clever", "A", "!", "a", "bb", "zz", "rich", "21", "7",
        "13", "1", "\n", "  "};

    private final Random random;
    private final TithedThoughts real = new TithedThoughts();
    private final Model model = new Model();
    private final StringBuilder told = new StringBuilder();
    private final int run;
    private int calls = 0;

    private ModelTest(int run) {
        this.run = run;
        this.random = new Random(run * 7919L + 13);
    }

    public static void main(String[] args) {
        int runs = args.length > 0 ? Integer.parseInt(args[0]) : 600;
        for (int run = 0; run < runs; run++) {
            new ModelTest(run).go();
        }
        Check.finish();
    }

    private int below(int bound) {
        return random.nextInt(bound);
    }

    private boolean oneIn(int n) {
        return below(n) == 0;
    }

    private static int answer(IntSupplier call) {
        try {
            return call.getAsInt();
        } catch (NoSuchElementException e) {
            return THROWN;
        }
    }

    private int same(String call, IntSupplier ofReal, IntSupplier ofModel) {
        calls++;
        int got = answer(ofReal);
        int want = answer(ofModel);
        if (got != want) {
            System.out.println("run " + run + ", told " + told);
        }
        Check.due("run " + run + ", call " + calls + ": " + call, got, want);
        return got;
    }

    private void feed(String text) {
        for (int at = 0; at < text.length(); at += 24) {
            long a = Check.packed(text, at);
            long b = Check.packed(text, at + 8);
            long c = Check.packed(text, at + 16);
            same("feed", () -> real.feed(a, b, c), () -> model.feed(a, b, c));
        }
    }

    private void go() {
        int lives = 1 + below(3);
        for (int life = 0; life < lives; life++) {
            tellAbbey();
            int many = 20 + below(130);
            for (int i = 0; i < many && calls < 440; i++) {
                call();
            }
        }
    }

    // ---- texts

    private String e(int depth) {
        StringBuilder s = new StringBuilder(part(depth));
        int more = oneIn(2) ? 0 : below(4);
        String[] signs = {"+", "-", "*", "+", "-", "*", "<", "=", " and ", " or "};
        boolean compared = false;
        for (int i = 0; i < more; i++) {
            String sign = signs[below(signs.length)];
            boolean compares = sign.equals("<") || sign.equals("=");
            if (compares && compared) {
                sign = "+";
            }
            compared |= compares;
            if (sign.startsWith(" ")) {
                compared = false;
            }
            s.append(sign).append(part(depth));
        }
        return s.toString();
    }

    private String part(int depth) {
        int kind = below(10);
        if (kind < 4 || depth > below(7)) {
            return Model.FACTS.get(below(4)) + " ";
        }
        if (kind < 7) {
            return String.valueOf(oneIn(6) ? below(10000) : below(12));
        }
        return kind == 7 ? "not " + part(depth + 1) : "(" + e(depth + 1) + ")";
    }

    private String abbeyText() {
        List<String> names = new ArrayList<>(List.of(NAMES));
        java.util.Collections.shuffle(names, random);
        int thoughts = oneIn(12) ? below(3) : 2 + below(7);
        int tenants = oneIn(12) ? below(2) : 1 + below(5);
        int worths = 1 + below(21);
        StringBuilder s = new StringBuilder();
        for (int i = 0; i < thoughts; i++) {
            s.append("thought ").append(names.get(i)).append(" worth ").append(below(worths)).append(" part ")
                .append(below(7)).append(oneIn(5) ? " ;\n" : ";");
        }
        int dense = 1 + below(4);
        for (int i = 0; i < thoughts; i++) {
            for (int k = 0; k < thoughts; k++) {
                if (below(5) < dense && s.length() < 800) {
                    s.append("follows ").append(names.get(i)).append(' ').append(names.get(k)).append(';');
                }
            }
        }
        StringBuilder t = new StringBuilder();
        for (int i = 0; i < tenants; i++) {
            t.append("tenant ").append(names.get(thoughts + i)).append(' ').append(Model.KINDS.get(below(4))).append(';');
        }
        if (!oneIn(8)) {
            t.append("tithe ").append(oneIn(3) ? 2 + below(11) : 2 + below(4)).append(';');
        }
        if (oneIn(2)) {
            t.append("runs ").append(below(21)).append(';');
        }
        if (oneIn(2)) {
            t.append("engine ").append(1 + below(6)).append(';');
        }
        if (oneIn(2)) {
            t.append("gains ").append(e(0)).append(';');
        }
        if (!oneIn(3)) {
            t.append("back ").append(oneIn(2) ? "counted-" + below(3) : e(0)).append(';');
        }
        return oneIn(2) ? t.append(s).toString() : s.append(t).toString();
    }

    private String spoilt(String text) {
        List<String> tokens = new ArrayList<>(List.of(text.split("(?<=[ ;])|(?=[ ;(])")));
        int changes = 1 + below(2);
        for (int i = 0; i < changes && !tokens.isEmpty(); i++) {
            int at = below(tokens.size());
            switch (below(4)) {
                case 0: tokens.remove(at); break;
                case 1: tokens.add(at, PIECES[below(PIECES.length)]); break;
                case 2: tokens.add(at, tokens.get(below(tokens.size()))); break;
                default: tokens.set(at, PIECES[below(PIECES.length)]); break;
            }
        }
        return String.join("", tokens);
    }

    private void tellAbbey() {
        for (int i = 0; i < 2 && oneIn(2); i++) {
            feed(spoilt(abbeyText()));
            same("abbey", real::abbey, model::abbey);
        }
        String text = abbeyText();
        told.append("\n").append(text).append("\n");
        feed(text);
        same("abbey", real::abbey, model::abbey);
    }

    private String thoughtName() {
        return model.told.thoughts.isEmpty() ? "a" : model.told.thoughts.get(below(model.told.thoughts.size())).name;
    }

    private String tenantName() {
        return model.told.tenants.isEmpty() ? "a" : model.told.tenants.get(below(model.told.tenants.size()));
    }

    private void tellYears() {
        StringBuilder s = new StringBuilder();
        int many = oneIn(6) ? 38 + below(5) : below(38);
        String one = tenantName();
        for (int i = 0; i < many; i++) {
            one = oneIn(3) ? tenantName() : one;
            int kind = below(8);
            String line = kind == 0 ? "gate " + one : kind == 1 ? "pool " + one + " " + thoughtName()
                : "think " + one + " " + thoughtName();
            s.append(line).append(';');
        }
        String text = oneIn(4) ? spoilt(s.toString()) : s.toString();
        told.append("\n").append(text).append("\n");
        feed(text);
        same("years", real::years, model::years);
    }

    // ---- calls

    private int tenantArg() {
        return oneIn(15) ? below(9) - 2 : below(Math.max(1, model.told.tenants.size()));
    }

    private int thoughtArg() {
        return oneIn(15) ? below(12) - 2 : below(Math.max(1, model.told.thoughts.size()));
    }

    private static int bit(boolean b) {
        return b ? 1 : 0;
    }

    private void call() {
        int kind = below(100);
        if (kind < 45) {
            deed();
        } else if (kind < 47) {
            tellYears();
        } else if (kind < 52) {
            markOrGuess();
        } else if (kind < 75) {
            askOfOne();
        } else {
            askOfAll();
        }
    }

    private void deed() {
        int t = tenantArg();
        int h = thoughtArg();
        int can = model.tenant(t, 5);
        if (can > 0 && !oneIn(6)) {
            while ((can >> h & 1) == 0) {
                h = below(8);
            }
        }
        int thought = h;
        told.append("deed ").append(t).append(' ').append(h).append('\n');
        switch (below(10)) {
            case 0: same("gate " + t, () -> real.gate(t), () -> model.gate(t)); break;
            case 1: case 2:
                same("pool " + t + " " + h, () -> bit(real.pool(t, thought)), () -> model.pool(t, thought)); break;
            case 3: same("undo", () -> bit(real.undo()), model::undo); break;
            default: same("think " + t + " " + h, () -> real.think(t, thought), () -> model.think(t, thought)); break;
        }
    }

    private void markOrGuess() {
        int mark = oneIn(8) ? below(7) - 2 : below(4);
        boolean flag = oneIn(2);
        int h = thoughtArg();
        if (oneIn(2)) {
            same("mark " + mark + " " + flag, () -> bit(real.mark(mark, flag)), () -> model.mark(mark, flag));
        } else {
            same("guess " + h + " " + flag, () -> bit(real.guess(h, flag)), () -> model.guess(h, flag));
        }
    }

    private void askOfOne() {
        int t = tenantArg();
        int h = thoughtArg();
        int n = below(12) - 1;
        int what = below(8) - 2;
        String args = t + " " + h + " " + n + " " + what;
        switch (below(13)) {
            case 0: same("thought " + args, () -> real.thought(h, what), () -> model.thought(h, what)); break;
            case 1: same("tenant " + args, () -> real.tenant(t, what), () -> model.tenant(t, what)); break;
            case 2: same("keeps " + args, () -> real.keeps(t, h), () -> model.keeps(t, h)); break;
            case 3: case 4: askBest(t); break;
            case 5: same("tithed " + args, () -> real.tithed(t, h), () -> model.tithed(t, h)); break;
            case 6: {
                int many = oneIn(4) ? n : Math.min(n, 5);
                boolean dear = many > 6 && many < 10;
                if (!dear || oneIn(20)) {
                    same("ways " + args, () -> real.ways(t, h, many), () -> model.ways(t, h, many));
                }
                break;
            }
            case 7: same("safe " + args, () -> real.safe(t), () -> model.safe(t)); break;
            case 8: same("dowry " + args, () -> real.dowry(t), () -> model.dowry(t)); break;
            case 9: same("match " + args, () -> real.match(t), () -> model.match(t)); break;
            case 10: same("chance " + args, () -> real.chance(t, h), () -> model.chance(t, h)); break;
            case 11: same("ring " + args, () -> real.ring(h), () -> model.ring(h)); break;
            default: same("match -1", () -> real.match(-1), () -> model.match(-1)); break;
        }
    }

    private void askBest(int t) {
        int many = oneIn(10) ? below(8) - 1 : 1 + below(oneIn(20) ? 5 : 4);
        for (int what = -1; what < many; what++) {
            int i = oneIn(12) ? what + 3 : what;
            same("best " + t + " " + many + " " + i, () -> real.best(t, many, i), () -> model.best(t, many, i));
        }
    }

    private void askOfAll() {
        int what = below(5) - 1;
        int part = below(9) - 1;
        int tithe = 1 + below(13);
        int wide = below(15) - 1;
        int seed = oneIn(10) ? below(3) - 1 : oneIn(10) ? 9998 + below(4) : below(10000);
        int steps = oneIn(10) ? below(3) : oneIn(10) ? 97 + below(5) : 1 + below(99);
        switch (below(13)) {
            case 0: same("judged " + what, () -> real.judged(what), () -> model.judged(what)); break;
            case 1: same("holders " + part, () -> real.holders(part), () -> model.holders(part)); break;
            case 2: same("poorest", real::poorest, model::poorest); break;
            case 3: same("lacks", real::lacks, model::lacks); break;
            case 4: case 5: same("givers", real::givers, model::givers); break;
            case 6: same("fits", real::fits, model::fits); break;
            case 7: same("ask", real::ask, model::ask); break;
            case 8: same("dead", real::dead, model::dead); break;
            case 9: same("other " + tithe, () -> real.other(tithe), () -> model.other(tithe)); break;
            case 10:
                same("lives " + seed + " " + steps + " " + what, () -> real.lives(seed, steps, what),
                    () -> model.lives(seed, steps, what));
                break;
            case 11: askRests(); break;
            default: same("count " + wide, () -> real.count(wide), () -> model.count(wide)); break;
        }
    }

    private void askRests() {
        int both = below(12) - 1;
        int loses = oneIn(3) ? 0 : below(12) - 1;
        int gets = below(12) - 1;
        int what = below(6) - 2;
        same("rests " + both + " " + loses + " " + gets + " " + what, () -> real.rests(both, loses, gets, what),
            () -> model.rests(both, loses, gets, what));
    }
}
