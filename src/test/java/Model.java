import java.util.ArrayList;
import java.util.HashMap;
import java.util.List;
import java.util.Map;
import java.util.NoSuchElementException;

/** The document once more, in the slowest and plainest way, to compare the class with. */
final class Model {
    static final class Fault extends RuntimeException {
        private static final long serialVersionUID = 1L;
        final int code;

        Fault(int kind, int place) {
            super("fault", null, false, false);
            code = kind + 16 * place;
        }
    }

    static final class Token {
        final String text;
        final int place;

        Token(String text, int place) {
            this.text = text;
            this.place = place;
        }

        boolean isWord() {
            return text.matches("[a-z]{1,8}");
        }

        boolean isNumber() {
            return text.matches("[0-9]{1,4}");
        }

        boolean isName() {
            return isWord() && !RESERVED.contains(text);
        }
    }

    static final List<String> RESERVED = List.of("thought", "worth", "part", "follows", "tenant", "tithe", "runs",
        "engine", "gains", "back", "think", "gate", "pool", "plain", "simple", "clever", "runner", "not", "and", "or");
    static final List<String> KINDS = List.of("plain", "simple", "clever", "runner");
    static final List<String> FACTS = List.of("counted", "rich", "piece", "barn");

    interface Law {
        int of(int counted, int rich, int piece, int barn);
    }

    static final class Thought {
        String name;
        int worth;
        int part;
    }

    static final class Told {
        final List<Thought> thoughts = new ArrayList<>();
        final List<String> tenants = new ArrayList<>();
        final List<Integer> kinds = new ArrayList<>();
        final List<String> follows = new ArrayList<>();
        final Map<String, Integer> settings = new HashMap<>();
        final Map<String, Law> laws = new HashMap<>();

        int setting(String name, int without) {
            return settings.getOrDefault(name, without);
        }

        int thoughtNamed(String name) {
            for (int i = 0; i < thoughts.size(); i++) {
                if (thoughts.get(i).name.equals(name)) {
                    return i;
                }
            }
            return -1;
        }

        boolean mayFollow(int one, int other) {
            return follows.contains(one + " " + other);
        }
    }

    /** One tenant as he is. */
    static final class One {
        int last = -1;
        int gained;
        boolean ran;
        boolean everThought;
        List<Integer> counted = new ArrayList<>();
        int[] keeps = new int[8];

        One copy() {
            One c = new One();
            c.last = last;
            c.gained = gained;
            c.ran = ran;
            c.everThought = everThought;
            c.counted = new ArrayList<>(counted);
            c.keeps = keeps.clone();
            return c;
        }
    }

    static final class How {
        List<One> ones = new ArrayList<>();
        List<Integer> barn = new ArrayList<>();

        How copy() {
            How c = new How();
            for (One o : ones) {
                c.ones.add(o.copy());
            }
            c.barn = new ArrayList<>(barn);
            return c;
        }
    }

    static final class Held {
        How how;
        List<int[]> years;
        List<int[]> guesses;
    }

    StringBuilder tape = new StringBuilder();
    Told told = new Told();
    How how = new How();
    List<int[]> years = new ArrayList<>();
    List<int[]> guesses = new ArrayList<>();
    List<How> undo = new ArrayList<>();
    Held[] marks = new Held[4];

    // ---- reading

    private List<Token> tokens;
    private int at;
    private Told draft;

    int feed(long a, long b, long c) {
        for (long v : new long[] {a, b, c}) {
            for (byte s : java.nio.ByteBuffer.allocate(8).putLong(v).array()) {
                if ((s == 10 || s >= 32 && s <= 126) && tape.length() < 1000) {
                    tape.append((char) s);
                }
            }
        }
        return tape.length();
    }

    private void split() {
        tokens = new ArrayList<>();
        String text = tape.toString();
        tape.setLength(0);
        java.util.regex.Matcher m = java.util.regex.Pattern.compile("[a-z]+|[0-9]+|[^ \n]").matcher(text);
        while (m.find()) {
            tokens.add(new Token(m.group(), m.start()));
        }
        tokens.add(new Token("", text.length()));
        at = 0;
    }

    private Token look() {
        return tokens.get(at);
    }

    private Token take() {
        return tokens.get(at++);
    }

    private void must(String text) {
        Token t = take();
        if (!t.text.equals(text)) {
            throw new Fault(1, t.place);
        }
    }

    private int number(int low, int high) {
        Token t = take();
        if (!t.isNumber()) {
            throw new Fault(1, t.place);
        }
        int n = Integer.parseInt(t.text);
        if (n < low || n > high) {
            throw new Fault(4, t.place);
        }
        return n;
    }

    private Token name() {
        Token t = take();
        if (!t.isName()) {
            throw new Fault(1, t.place);
        }
        return t;
    }

    private String newName() {
        Token t = name();
        if (draft.thoughtNamed(t.text) >= 0 || draft.tenants.contains(t.text)) {
            throw new Fault(3, t.place);
        }
        return t.text;
    }

    private int oldThought(Told in) {
        Token t = name();
        int i = in.thoughtNamed(t.text);
        if (i < 0) {
            throw new Fault(2, t.place);
        }
        return i;
    }

    private int oldTenant() {
        Token t = name();
        int i = told.tenants.indexOf(t.text);
        if (i < 0) {
            throw new Fault(2, t.place);
        }
        return i;
    }

    int abbey() {
        split();
        draft = new Told();
        try {
            while (!look().text.isEmpty()) {
                tell();
            }
        } catch (Fault f) {
            return f.code;
        }
        told = draft;
        how = beginning();
        years = new ArrayList<>();
        guesses = new ArrayList<>();
        undo = new ArrayList<>();
        marks = new Held[4];
        return 0;
    }

    private How beginning() {
        How h = new How();
        for (int i = 0; i < told.tenants.size(); i++) {
            h.ones.add(new One());
        }
        return h;
    }

    private void tell() {
        Token first = take();
        switch (first.text) {
            case "thought": {
                if (draft.thoughts.size() == 8) {
                    throw new Fault(5, first.place);
                }
                Thought t = new Thought();
                t.name = newName();
                must("worth");
                t.worth = number(0, 20);
                must("part");
                t.part = number(0, 6);
                draft.thoughts.add(t);
                break;
            }
            case "follows": {
                int one = oldThought(draft);
                int place = look().place;
                int other = oldThought(draft);
                if (draft.mayFollow(one, other)) {
                    throw new Fault(3, place);
                }
                draft.follows.add(one + " " + other);
                break;
            }
            case "tenant": {
                if (draft.tenants.size() == 5) {
                    throw new Fault(5, first.place);
                }
                String name = newName();
                Token kind = take();
                if (!KINDS.contains(kind.text)) {
                    throw new Fault(1, kind.place);
                }
                draft.tenants.add(name);
                draft.kinds.add(KINDS.indexOf(kind.text));
                break;
            }
            case "tithe": case "runs": case "engine": {
                if (draft.settings.containsKey(first.text)) {
                    throw new Fault(3, first.place);
                }
                int low = first.text.equals("tithe") ? 2 : first.text.equals("runs") ? 0 : 1;
                int high = first.text.equals("tithe") ? 12 : first.text.equals("runs") ? 20 : 6;
                draft.settings.put(first.text, number(low, high));
                break;
            }
            case "gains": case "back": {
                if (draft.laws.containsKey(first.text)) {
                    throw new Fault(3, first.place);
                }
                draft.laws.put(first.text, e(0));
                break;
            }
            default:
                throw new Fault(1, first.place);
        }
        must(";");
    }

    private static int bit(boolean b) {
        return b ? 1 : 0;
    }

    private Law e(int depth) {
        Law left = test(depth);
        while (look().text.equals("and") || look().text.equals("or")) {
            boolean and = take().text.equals("and");
            Law l = left;
            Law r = test(depth);
            left = and ? (c, w, p, b) -> bit(l.of(c, w, p, b) != 0 & r.of(c, w, p, b) != 0)
                : (c, w, p, b) -> bit(l.of(c, w, p, b) != 0 | r.of(c, w, p, b) != 0);
        }
        return left;
    }

    private Law test(int depth) {
        Law l = sum(depth);
        if (look().text.equals("<")) {
            take();
            Law r = sum(depth);
            return (c, w, p, b) -> bit(l.of(c, w, p, b) < r.of(c, w, p, b));
        }
        if (look().text.equals("=")) {
            take();
            Law r = sum(depth);
            return (c, w, p, b) -> bit(l.of(c, w, p, b) == r.of(c, w, p, b));
        }
        return l;
    }

    private Law sum(int depth) {
        Law left = product(depth);
        while (look().text.equals("+") || look().text.equals("-")) {
            int sign = take().text.equals("+") ? 1 : -1;
            Law l = left;
            Law r = product(depth);
            left = (c, w, p, b) -> l.of(c, w, p, b) + sign * r.of(c, w, p, b);
        }
        return left;
    }

    private Law product(int depth) {
        Law left = part(depth);
        while (look().text.equals("*")) {
            take();
            Law l = left;
            Law r = part(depth);
            left = (c, w, p, b) -> l.of(c, w, p, b) * r.of(c, w, p, b);
        }
        return left;
    }

    private Law part(int depth) {
        Token t = take();
        boolean stands = t.isNumber() || FACTS.contains(t.text) || t.text.equals("not") || t.text.equals("(");
        if (!stands) {
            throw new Fault(1, t.place);
        }
        if (depth == 5) {
            throw new Fault(5, t.place);
        }
        if (t.isNumber()) {
            int n = Integer.parseInt(t.text);
            return (c, w, p, b) -> n;
        }
        switch (t.text) {
            case "counted": return (c, w, p, b) -> c;
            case "rich": return (c, w, p, b) -> w;
            case "piece": return (c, w, p, b) -> p;
            case "barn": return (c, w, p, b) -> b;
            case "not": {
                Law l = part(depth + 1);
                return (c, w, p, b) -> bit(l.of(c, w, p, b) == 0);
            }
            default: {
                Law l = e(depth + 1);
                must(")");
                return l;
            }
        }
    }

    int years() {
        split();
        List<int[]> lines = new ArrayList<>();
        try {
            while (!look().text.isEmpty()) {
                Token first = take();
                int deed = List.of("think", "gate", "pool").indexOf(first.text);
                if (deed < 0) {
                    throw new Fault(1, first.place);
                }
                if (lines.size() == 40) {
                    throw new Fault(5, first.place);
                }
                int tenant = oldTenant();
                int thought = deed == 1 ? -1 : oldThought(told);
                must(";");
                lines.add(new int[] {deed, tenant, thought});
            }
        } catch (Fault f) {
            return f.code;
        }
        years = lines;
        return 0;
    }

    // ---- deeds

    int tithe() {
        return told.setting("tithe", 10);
    }

    int worth(int thought) {
        return told.thoughts.get(thought).worth;
    }

    boolean isThought(int i) {
        return i >= 0 && i < told.thoughts.size();
    }

    boolean isTenant(int i) {
        return i >= 0 && i < told.tenants.size();
    }

    private List<Integer> next(One o) {
        List<Integer> list = new ArrayList<>();
        for (int i = 0; i < told.thoughts.size(); i++) {
            if (o.last < 0 || told.mayFollow(i, o.last)) {
                list.add(i);
            }
        }
        return list;
    }

    private List<Integer> can(One o) {
        return o.ran ? new ArrayList<>() : next(o);
    }

    /** -1 can't be, -2 no tithe came, else the tithe. */
    int doThink(How h, int tenant, int thought, int tithe) {
        One o = h.ones.get(tenant);
        if (!can(o).contains(thought)) {
            return -1;
        }
        int kind = told.kinds.get(tenant);
        int countedWith = kind == 1 ? 0 : o.counted.size() + 1;
        Law law = told.laws.get("gains");
        int gain = worth(thought);
        if (law != null) {
            gain = law.of(countedWith, worth(thought), told.thoughts.get(thought).part, h.barn.size());
        }
        gain = Math.max(-99, Math.min(99, gain));
        boolean first = !o.everThought;
        o.everThought = true;
        o.last = thought;
        int came = -2;
        boolean isTitheItself = false;
        if (kind == 1) {
            if (first) {
                came = thought;
                isTitheItself = true;
            }
        } else {
            o.counted.add(thought);
            if (o.counted.size() == tithe) {
                if (kind == 3 && worth(thought) > told.setting("runs", 10)) {
                    o.ran = true;
                } else if (kind == 2) {
                    int which = 0;
                    for (int i = 0; i < o.counted.size(); i++) {
                        if (worth(o.counted.get(i)) < worth(o.counted.get(which))) {
                            which = i;
                        }
                    }
                    came = o.counted.get(which);
                    isTitheItself = which == o.counted.size() - 1;
                    if (!isTitheItself && o.keeps[came] > 0) {
                        o.keeps[came]--;
                    }
                } else {
                    came = thought;
                    isTitheItself = true;
                }
                o.counted.clear();
            }
        }
        if (came >= 0) {
            h.barn.add(came);
        }
        if (!isTitheItself) {
            o.keeps[thought]++;
            o.gained += gain;
        }
        return came;
    }

    int doGate(How h, int tenant) {
        One o = h.ones.get(tenant);
        if (o.ran) {
            return -1;
        }
        int rich = o.last < 0 ? 0 : worth(o.last);
        int piece = o.last < 0 ? 0 : told.thoughts.get(o.last).part;
        Law law = told.laws.get("back");
        int left = law == null ? 0 : law.of(o.counted.size(), rich, piece, h.barn.size());
        left = Math.max(0, Math.min(o.counted.size(), left));
        while (o.counted.size() > left) {
            o.counted.remove(0);
        }
        o.last = -1;
        return left;
    }

    boolean doPool(How h, int tenant, int thought) {
        One o = h.ones.get(tenant);
        if (o.ran || o.keeps[thought] == 0) {
            return false;
        }
        o.keeps[thought]--;
        h.barn.add(thought);
        return true;
    }

    private void held(How before) {
        undo.add(before);
        if (undo.size() > 16) {
            undo.remove(0);
        }
    }

    int think(int tenant, int thought) {
        if (!isTenant(tenant) || !isThought(thought)) {
            return -1;
        }
        How before = how.copy();
        int answer = doThink(how, tenant, thought, tithe());
        if (answer != -1) {
            held(before);
        }
        return answer;
    }

    int gate(int tenant) {
        if (!isTenant(tenant)) {
            return -1;
        }
        How before = how.copy();
        int answer = doGate(how, tenant);
        if (answer != -1) {
            held(before);
        }
        return answer;
    }

    int pool(int tenant, int thought) {
        if (!isTenant(tenant) || !isThought(thought)) {
            return 0;
        }
        How before = how.copy();
        boolean answer = doPool(how, tenant, thought);
        if (answer) {
            held(before);
        }
        return bit(answer);
    }

    int undo() {
        if (undo.isEmpty()) {
            return 0;
        }
        how = undo.remove(undo.size() - 1);
        return 1;
    }

    int mark(int mark, boolean back) {
        if (mark < 0 || mark > 3 || back && marks[mark] == null) {
            return 0;
        }
        if (back) {
            how = marks[mark].how.copy();
            years = new ArrayList<>(marks[mark].years);
            guesses = new ArrayList<>(marks[mark].guesses);
            undo.clear();
        } else {
            marks[mark] = new Held();
            marks[mark].how = how.copy();
            marks[mark].years = new ArrayList<>(years);
            marks[mark].guesses = new ArrayList<>(guesses);
        }
        return 1;
    }

    // ---- asking

    private static int bits(List<Integer> list) {
        int set = 0;
        for (int i : list) {
            set |= 1 << i;
        }
        return set;
    }

    private int inBarn(int thought) {
        int n = 0;
        for (int t : how.barn) {
            n += bit(t == thought);
        }
        return n;
    }

    int thought(int thought, int what) {
        if (!isThought(thought) || what < 0 || what > 3) {
            return -1;
        }
        List<Integer> followers = new ArrayList<>();
        for (int i = 0; i < told.thoughts.size(); i++) {
            if (told.mayFollow(i, thought)) {
                followers.add(i);
            }
        }
        return new int[] {worth(thought), told.thoughts.get(thought).part, bits(followers), inBarn(thought)}[what];
    }

    int tenant(int tenant, int what) {
        if (!isTenant(tenant) || what < 0 || what > 5) {
            return -1000;
        }
        One o = how.ones.get(tenant);
        return new int[] {told.kinds.get(tenant), o.last, o.counted.size(), o.gained, bit(o.ran), bits(can(o))}[what];
    }

    int keeps(int tenant, int thought) {
        return isTenant(tenant) && isThought(thought) ? how.ones.get(tenant).keeps[thought] : -1;
    }

    private int allGained(How h) {
        int sum = 0;
        for (One o : h.ones) {
            sum += o.gained;
        }
        return sum;
    }

    private int allRan(How h) {
        int set = 0;
        for (int i = 0; i < h.ones.size(); i++) {
            set |= bit(h.ones.get(i).ran) << i;
        }
        return set;
    }

    /** First line left out, first tithe or run, gained, tithes. */
    private int[] live(int tithe) {
        How h = beginning();
        int[] found = {-1, -1, 0, 0};
        for (int i = 0; i < years.size(); i++) {
            int[] line = years.get(i);
            int ran = allRan(h);
            boolean left;
            boolean came = false;
            if (line[0] == 0) {
                int answer = doThink(h, line[1], line[2], tithe);
                left = answer == -1;
                came = answer >= 0;
            } else if (line[0] == 1) {
                left = doGate(h, line[1]) == -1;
            } else {
                left = !doPool(h, line[1], line[2]);
            }
            if (left && found[0] < 0) {
                found[0] = i;
            }
            if ((came || allRan(h) != ran) && found[1] < 0) {
                found[1] = i;
            }
            found[3] += bit(came);
        }
        found[2] = allGained(h);
        return found;
    }

    int judged(int what) {
        if (what < 0 || what > 2) {
            throw new NoSuchElementException();
        }
        return live(tithe())[what];
    }

    int other(int tithe) {
        return tithe < 2 || tithe > 12 ? -1 : live(tithe)[3];
    }

    private int bestGain;
    private List<Integer> bestRow;

    private void rows(How h, int tenant, int many, List<Integer> row) {
        if (row.size() == many) {
            int gain = h.ones.get(tenant).gained - how.ones.get(tenant).gained;
            if (bestRow == null || gain > bestGain) {
                bestGain = gain;
                bestRow = new ArrayList<>(row);
            }
            return;
        }
        for (int i : can(h.ones.get(tenant))) {
            How then = h.copy();
            doThink(then, tenant, i, tithe());
            row.add(i);
            rows(then, tenant, many, row);
            row.remove(row.size() - 1);
        }
    }

    int best(int tenant, int many, int what) {
        if (!isTenant(tenant) || many < 1 || many > 5 || what < -1 || what >= many) {
            throw new NoSuchElementException();
        }
        bestRow = null;
        rows(how, tenant, many, new ArrayList<>());
        if (bestRow == null) {
            throw new NoSuchElementException();
        }
        return what < 0 ? bestGain : bestRow.get(what);
    }

    int tithed(int tenant, int thought) {
        if (!isTenant(tenant) || !isThought(thought) || how.ones.get(tenant).ran) {
            return -1;
        }
        One o = how.ones.get(tenant);
        for (int many = 1; many <= 36; many++) {
            boolean[] reached = new boolean[8];
            for (int i : next(o)) {
                reached[i] = true;
            }
            for (int step = 1; step < many; step++) {
                boolean[] then = new boolean[8];
                for (int i = 0; i < told.thoughts.size(); i++) {
                    for (int k = 0; k < told.thoughts.size(); k++) {
                        then[k] |= reached[i] && told.mayFollow(k, i);
                    }
                }
                reached = then;
            }
            if ((o.counted.size() + many) % tithe() == 0 && reached[thought]) {
                return many;
            }
        }
        return -1;
    }

    private int waysFrom(One o, int thought, int many) {
        int sum = 0;
        for (int i : next(o)) {
            One then = new One();
            then.last = i;
            sum += many == 1 ? bit(i == thought) : waysFrom(then, thought, many - 1);
        }
        return sum;
    }

    int ways(int tenant, int thought, int many) {
        if (!isTenant(tenant) || !isThought(thought) || many < 1 || many > 9) {
            return -1;
        }
        return waysFrom(how.ones.get(tenant), thought, many);
    }

    int safe(int tenant) {
        if (!isTenant(tenant)) {
            return -1;
        }
        List<Integer> list = new ArrayList<>();
        for (int i : can(how.ones.get(tenant))) {
            How h = how.copy();
            if (doThink(h, tenant, i, tithe()) == -2 && !h.ones.get(tenant).ran) {
                list.add(i);
            }
        }
        return bits(list);
    }

    private boolean keepsPart(int tenant, int part) {
        for (int i = 0; i < told.thoughts.size(); i++) {
            if (told.thoughts.get(i).part == part && how.ones.get(tenant).keeps[i] > 0) {
                return true;
            }
        }
        return false;
    }

    int holders(int part) {
        if (part < 1 || part > 6) {
            return -1;
        }
        int set = 0;
        for (int i = 0; i < told.tenants.size(); i++) {
            set |= bit(keepsPart(i, part)) << i;
        }
        return set;
    }

    int dowry(int tenant) {
        if (!isTenant(tenant)) {
            return -1;
        }
        int sum = 0;
        for (int i = 0; i < told.thoughts.size(); i++) {
            sum += worth(i) * how.ones.get(tenant).keeps[i];
        }
        return sum;
    }

    int poorest() {
        int who = -1;
        for (int i = told.tenants.size() - 1; i >= 0; i--) {
            if (!how.ones.get(i).ran && (who < 0 || dowry(i) <= dowry(who))) {
                who = i;
            }
        }
        return who;
    }

    int lacks() {
        int set = 0;
        for (int part = 1; part <= told.setting("engine", 3); part++) {
            boolean lies = false;
            for (int t : how.barn) {
                lies |= told.thoughts.get(t).part == part;
            }
            set |= bit(!lies) << part - 1;
        }
        return set;
    }

    int givers() {
        int lacks = lacks();
        for (int size = 0; size <= told.tenants.size(); size++) {
            for (int set = 0; set < 1 << told.tenants.size(); set++) {
                boolean all = Integer.bitCount(set) == size && (set & allRan(how)) == 0;
                for (int part = 1; part <= 6; part++) {
                    boolean given = (lacks >> part - 1 & 1) == 0;
                    for (int i = 0; i < told.tenants.size(); i++) {
                        given |= (set >> i & 1) == 1 && keepsPart(i, part);
                    }
                    all &= given;
                }
                if (all) {
                    return set;
                }
            }
        }
        return -1;
    }

    /** All rows of partners, in their order; only those in which each is his partner's partner count. */
    int match(int tenant) {
        if (tenant != -1 && !isTenant(tenant)) {
            return -2;
        }
        int n = told.tenants.size();
        int all = 1;
        for (int i = 0; i < n; i++) {
            all *= n;
        }
        int most = -1;
        int[] bestWith = new int[n];
        for (int code = 0; code < all; code++) {
            int[] with = new int[n];
            int rest = code;
            for (int i = n - 1; i >= 0; i--) {
                with[i] = rest % n;
                rest /= n;
            }
            boolean pairs = true;
            int sum = 0;
            for (int i = 0; i < n; i++) {
                pairs &= with[with[i]] == i;
                if (with[i] > i) {
                    sum += dowry(i) * dowry(with[i]);
                }
            }
            if (pairs && sum > most) {
                most = sum;
                bestWith = with;
            }
        }
        return tenant == -1 ? most : bestWith[tenant];
    }

    int guess(int thought, boolean may) {
        if (!isThought(thought) || guesses.size() == 8) {
            return 0;
        }
        guesses.add(new int[] {thought, bit(may)});
        return 1;
    }

    private List<Integer> fitting() {
        List<Integer> list = new ArrayList<>();
        for (int i = 0; i < told.thoughts.size(); i++) {
            boolean fits = true;
            for (int[] g : guesses) {
                fits &= told.mayFollow(g[0], i) == (g[1] == 1);
            }
            if (fits) {
                list.add(i);
            }
        }
        return list;
    }

    int fits() {
        return bits(fitting());
    }

    int ask() {
        int best = -1;
        int least = fitting().size();
        for (int i = 0; i < told.thoughts.size(); i++) {
            int may = 0;
            int not = 0;
            for (int f : fitting()) {
                if (told.mayFollow(i, f)) {
                    may++;
                } else {
                    not++;
                }
            }
            if (Math.max(may, not) < least) {
                least = Math.max(may, not);
                best = i;
            }
        }
        return best;
    }

    int chance(int tenant, int thought) {
        if (!isTenant(tenant) || !isThought(thought) || how.ones.get(tenant).ran) {
            return -1;
        }
        One o = how.ones.get(tenant);
        int[] has = new int[8];
        for (int i : next(o)) {
            has[i] = 1000000 / next(o).size();
        }
        for (int counted = o.counted.size() + 1; counted < tithe(); counted++) {
            int[] then = new int[8];
            for (int i = 0; i < told.thoughts.size(); i++) {
                One there = new One();
                there.last = i;
                for (int k : next(there)) {
                    then[k] += has[i] / next(there).size();
                }
            }
            has = then;
        }
        return has[thought];
    }

    int dead() {
        int set = 0;
        for (int i = 0; i < told.thoughts.size(); i++) {
            set |= bit(thought(i, 2) == 0) << i;
        }
        return set;
    }

    int ring(int thought) {
        if (!isThought(thought)) {
            return -1;
        }
        One there = new One();
        there.last = thought;
        for (int many = 1; many <= 8; many++) {
            if (waysFrom(there, thought, many) > 0) {
                return many;
            }
        }
        return -1;
    }

    int rests(int both, int loses, int gets, int what) {
        if (Math.min(both, Math.min(loses, gets)) < 0 || Math.max(both, Math.max(loses, gets)) > 9) {
            throw new NoSuchElementException();
        }
        List<Integer> found = new ArrayList<>();
        // Both sleep: who counts then would lose, which is never more than nothing.
        found.add(0);
        // One counts alone: he would sleep, unless he loses nothing; the other one would count, if both is more.
        if (loses == 0 && gets >= both) {
            found.add(1);
            found.add(2);
        }
        if (both >= gets) {
            found.add(3);
        }
        if (what == -1) {
            return found.size();
        }
        if (what < 0 || what >= found.size()) {
            throw new NoSuchElementException();
        }
        return found.get(what);
    }

    int lives(int seed, int steps, int what) {
        if (seed < 0 || seed > 9999 || steps < 1 || steps > 99 || what < 0 || what > 2) {
            throw new NoSuchElementException();
        }
        How h = how.copy();
        java.math.BigInteger g = java.math.BigInteger.valueOf(seed);
        int tithes = 0;
        for (int i = 0; i < steps && !told.tenants.isEmpty() && !told.thoughts.isEmpty(); i++) {
            int[] drawn = new int[2];
            for (int k = 0; k < 2; k++) {
                g = g.multiply(java.math.BigInteger.valueOf(1103515245)).add(java.math.BigInteger.valueOf(12345))
                    .mod(java.math.BigInteger.valueOf(2147483648L));
                drawn[k] = (int) (g.longValue() / 65536 % (k == 0 ? told.tenants.size() : told.thoughts.size()));
            }
            int answer = doThink(h, drawn[0], drawn[1], tithe());
            if (answer == -1) {
                doGate(h, drawn[0]);
            }
            tithes += bit(answer >= 0);
        }
        return new int[] {tithes, allRan(h), allGained(h) - allGained(how)}[what];
    }

    int count(int what) {
        int worth = 0;
        for (int t : how.barn) {
            worth += worth(t);
        }
        int[] all = {told.thoughts.size(), told.tenants.size(), tithe(), told.setting("runs", 10),
            told.setting("engine", 3), allRan(how), how.barn.size(), worth, years.size(), guesses.size(),
            undo.size(), tape.length()};
        return what < 0 || what >= all.length ? -1 : all[what];
    }
}
