import java.util.Arrays;
import java.util.NoSuchElementException;

/** An abbey that takes every tenth thought: told on a tape, lived by hand or by years, and asked about. */
public final class TithedThoughts {
    public static final int NONE = -1;

    private static final int NO_TITHE = -2;
    private static final int NO_TENANT = -1000;
    private static final int NO_MATCH = -2;

    private static final int MOST_SIGNS = 1000;
    private static final int MOST_LETTERS = 8;
    private static final int MOST_DIGITS = 4;
    private static final int MOST_THOUGHTS = 8;
    private static final int MOST_TENANTS = 5;
    private static final int MOST_PARTS = 6;
    private static final int MOST_WORTH = 20;
    private static final int LEAST_TITHE = 2;
    private static final int MOST_TITHE = 12;
    private static final int MOST_LINES = 40;
    private static final int MOST_NESTED = 5;
    private static final int MOST_UNDONE = 16;
    private static final int MOST_GUESSES = 8;
    private static final int MOST_MARKS = 4;
    private static final int MOST_GAIN = 99;
    private static final int MOST_ROW = 5;
    private static final int MOST_WAY = 9;
    private static final int MOST_TITHED = 36;
    private static final int MOST_SEED = 9999;
    private static final int MOST_STEPS = 99;
    private static final int MOST_STAKE = 9;
    private static final int WHOLE_CHANCE = 1000000;

    // A word's letters (a is 1) go into one long, five bits each, so that words are compared as numbers.
    private static final long LETTERS = 32;
    private static final int BEFORE_A = 'a' - 1;

    private static final int PLAIN = 0;
    private static final int SIMPLE = 1;
    private static final int CLEVER = 2;
    private static final int RUNNER = 3;

    private static final int THINK = 0;
    private static final int GATE = 1;
    private static final int POOL = 2;

    private static final int ONCE_TITHE = 1;
    private static final int ONCE_RUNS = 2;
    private static final int ONCE_ENGINE = 4;
    private static final int ONCE_GAINS = 8;
    private static final int ONCE_BACK = 16;

    // The code of an E: a NUMBER stands for itself, all else is negative; from NOT down it takes from the stack.
    private static final int COUNTED = -1;
    private static final int RICH = -2;
    private static final int PIECE = -3;
    private static final int BARN = -4;
    private static final int NOT = -5;
    private static final int AND = -6;
    private static final int OR = -7;
    private static final int LESS = -8;
    private static final int EQUAL = -9;
    private static final int PLUS = -10;
    private static final int MINUS = -11;
    private static final int TIMES = -12;

    private final Tokens tape = new Tokens();
    private final Undone undone = new Undone();
    private final Page now = new Page();
    private final Page[] marks = new Page[MOST_MARKS];
    private final Course course = new Course();
    private final Spread spread = new Spread();
    private final BestRow bestRow = new BestRow();
    private final Pairs pairs = new Pairs();
    private final Reader reader;
    private Abbey told = new Abbey();
    private Abbey draft = new Abbey();

    public TithedThoughts() {
        reader = new Reader(tape, told);
        for (int i = 0; i < MOST_MARKS; i++) {
            marks[i] = new Page();
        }
    }

    // ---- the tape

    public int feed(long a, long b, long c) {
        tape.addBytes(a);
        tape.addBytes(b);
        tape.addBytes(c);
        return tape.length;
    }

    public int abbey() {
        int fault = reader.readAbbey(draft);
        if (fault == 0) {
            // The two are swapped, so that no new ones are made.
            Abbey before = told;
            told = draft;
            draft = before;
            beginAnew();
        }
        return fault;
    }

    public int years() {
        return reader.readYears(told, now);
    }

    private void beginAnew() {
        now.clear();
        undone.clear();
        for (int i = 0; i < MOST_MARKS; i++) {
            marks[i].laid = false;
        }
    }

    // ---- how it is

    private boolean isThought(int thought) {
        return thought >= 0 && thought < told.thoughts;
    }

    private boolean isTenant(int tenant) {
        return tenant >= 0 && tenant < told.tenants;
    }

    private boolean areBoth(int tenant, int thought) {
        return isTenant(tenant) && isThought(thought);
    }

    public int thought(int thought, int what) {
        if (!isThought(thought)) {
            return NONE;
        }
        switch (what) {
            case 0: return told.worth[thought];
            case 1: return told.part[thought];
            case 2: return told.after[thought];
            case 3: return now.state.barn[thought];
            default: return NONE;
        }
    }

    public int tenant(int tenant, int what) {
        if (!isTenant(tenant)) {
            return NO_TENANT;
        }
        State state = now.state;
        switch (what) {
            case 0: return told.kind[tenant];
            case 1: return state.last[tenant];
            case 2: return state.counted[tenant];
            case 3: return state.gained[tenant];
            case 4: return state.hasRun(tenant) ? 1 : 0;
            case 5: return state.canThink(told, tenant);
            default: return NO_TENANT;
        }
    }

    public int keeps(int tenant, int thought) {
        return areBoth(tenant, thought) ? now.state.keptOf(tenant, thought) : NONE;
    }

    public int count(int what) {
        switch (what) {
            case 0: return told.thoughts;
            case 1: return told.tenants;
            case 2: return told.tithe;
            case 3: return told.runs;
            case 4: return told.engine;
            case 5: return now.state.ran;
            case 6: return now.state.inBarn;
            case 7: return worthInBarn();
            case 8: return now.lines;
            case 9: return now.guessed;
            case 10: return undone.many;
            case 11: return tape.length;
            default: return NONE;
        }
    }

    private int worthInBarn() {
        int sum = 0;
        for (int i = 0; i < told.thoughts; i++) {
            sum += told.worth[i] * now.state.barn[i];
        }
        return sum;
    }

    // ---- by hand

    public int think(int tenant, int thought) {
        if (!areBoth(tenant, thought) || !now.state.mayThink(told, tenant, thought)) {
            return NONE;
        }
        undone.hold(now.state);
        return now.state.thinkOf(told, tenant, thought, told.tithe);
    }

    public int gate(int tenant) {
        if (!isTenant(tenant) || now.state.hasRun(tenant)) {
            return NONE;
        }
        undone.hold(now.state);
        return now.state.goBack(told, tenant);
    }

    public boolean pool(int tenant, int thought) {
        if (!areBoth(tenant, thought) || !now.state.mayGive(tenant, thought)) {
            return false;
        }
        undone.hold(now.state);
        now.state.give(tenant, thought);
        return true;
    }

    public boolean undo() {
        return undone.takeBack(now.state);
    }

    public boolean mark(int mark, boolean back) {
        if (mark < 0 || mark >= MOST_MARKS) {
            return false;
        }
        Page page = marks[mark];
        if (!back) {
            page.copy(now);
            page.laid = true;
            return true;
        }
        if (!page.laid) {
            return false;
        }
        now.copy(page);
        undone.clear();
        return true;
    }

    // ---- the years

    public int judged(int what) throws NoSuchElementException {
        if (what < 0 || what > 2) {
            throw new NoSuchElementException();
        }
        course.liveYears(told, now, told.tithe);
        switch (what) {
            case 0: return course.leftOut;
            case 1: return course.firstTithe;
            default: return course.state.gainedByAll();
        }
    }

    public int other(int tithe) {
        if (tithe < LEAST_TITHE || tithe > MOST_TITHE) {
            return NONE;
        }
        course.liveYears(told, now, tithe);
        return course.tithes;
    }

    public int lives(int seed, int steps, int what) throws NoSuchElementException {
        if (seed < 0 || seed > MOST_SEED || steps < 1 || steps > MOST_STEPS || what < 0 || what > 2) {
            throw new NoSuchElementException();
        }
        course.liveByDraws(told, now.state, seed, steps);
        switch (what) {
            case 0: return course.tithes;
            case 1: return course.state.ran;
            default: return course.state.gainedByAll() - now.state.gainedByAll();
        }
    }

    // ---- what may come

    public int best(int tenant, int many, int what) throws NoSuchElementException {
        if (!isTenant(tenant) || many < 1 || many > MOST_ROW || what < NONE || what >= many) {
            throw new NoSuchElementException();
        }
        int most = bestRow.find(told, now.state, tenant, many);
        if (most == BestRow.NO_ROW) {
            throw new NoSuchElementException();
        }
        return what == NONE ? most : bestRow.chosen[what];
    }

    public int tithed(int tenant, int thought) {
        if (!areBoth(tenant, thought) || now.state.hasRun(tenant)) {
            return NONE;
        }
        int counted = now.state.counted[tenant];
        int set = now.state.mayCome(told, tenant);
        for (int many = 1; many <= MOST_TITHED; many++) {
            counted++;
            if (counted >= told.tithe) {
                counted = 0;
                if (isIn(set, thought)) {
                    return many;
                }
            }
            set = told.afterAny(set);
        }
        return NONE;
    }

    public int ways(int tenant, int thought, int many) {
        if (!areBoth(tenant, thought) || many < 1 || many > MOST_WAY) {
            return NONE;
        }
        spread.begin(now.state.mayCome(told, tenant), 1);
        for (int i = 1; i < many; i++) {
            spread.follow(told, false);
        }
        return spread.has[thought];
    }

    public int chance(int tenant, int thought) {
        if (!areBoth(tenant, thought) || now.state.hasRun(tenant)) {
            return NONE;
        }
        int set = now.state.mayCome(told, tenant);
        int first = Integer.bitCount(set);
        spread.begin(set, first == 0 ? 0 : WHOLE_CHANCE / first);
        for (int counted = now.state.counted[tenant] + 1; counted < told.tithe; counted++) {
            spread.follow(told, true);
        }
        return spread.has[thought];
    }

    public int safe(int tenant) {
        if (!isTenant(tenant)) {
            return NONE;
        }
        return now.state.isDue(told, tenant, told.tithe) ? 0 : now.state.canThink(told, tenant);
    }

    public int dead() {
        int set = 0;
        for (int i = 0; i < told.thoughts; i++) {
            if (told.after[i] == 0) {
                set |= 1 << i;
            }
        }
        return set;
    }

    public int ring(int thought) {
        if (!isThought(thought)) {
            return NONE;
        }
        int set = told.after[thought];
        for (int away = 1; away <= MOST_THOUGHTS; away++) {
            if (isIn(set, thought)) {
                return away;
            }
            set = told.afterAny(set);
        }
        return NONE;
    }

    // ---- the engine and the dowries

    public int holders(int part) {
        if (part < 1 || part > MOST_PARTS) {
            return NONE;
        }
        int set = 0;
        for (int tenant = 0; tenant < told.tenants; tenant++) {
            if (isIn(keptParts(tenant), part - 1)) {
                set |= 1 << tenant;
            }
        }
        return set;
    }

    public int lacks() {
        int lying = 0;
        for (int i = 0; i < told.thoughts; i++) {
            if (now.state.barn[i] > 0) {
                lying |= partBit(i);
            }
        }
        return told.allParts() & ~lying;
    }

    public int givers() {
        int wanted = lacks();
        int fewest = NONE;
        for (int set = 0; set < 1 << told.tenants; set++) {
            boolean fewer = fewest == NONE || Integer.bitCount(set) < Integer.bitCount(fewest);
            if (fewer && (set & now.state.ran) == 0 && (wanted & ~partsOfAll(set)) == 0) {
                fewest = set;
            }
        }
        return fewest;
    }

    /** The part that a THOUGHT is, as a bit (part 1 is bit 0), or no bit. */
    private int partBit(int thought) {
        int part = told.part[thought];
        return part == 0 ? 0 : 1 << (part - 1);
    }

    private int keptParts(int tenant) {
        int set = 0;
        for (int i = 0; i < told.thoughts; i++) {
            if (now.state.keptOf(tenant, i) > 0) {
                set |= partBit(i);
            }
        }
        return set;
    }

    private int partsOfAll(int tenants) {
        int set = 0;
        for (int tenant = 0; tenant < told.tenants; tenant++) {
            if (isIn(tenants, tenant)) {
                set |= keptParts(tenant);
            }
        }
        return set;
    }

    public int dowry(int tenant) {
        return isTenant(tenant) ? now.state.worthKept(told, tenant) : NONE;
    }

    public int poorest() {
        int poorest = NONE;
        int least = 0;
        for (int tenant = 0; tenant < told.tenants; tenant++) {
            int worth = now.state.worthKept(told, tenant);
            if (!now.state.hasRun(tenant) && (poorest == NONE || worth < least)) {
                poorest = tenant;
                least = worth;
            }
        }
        return poorest;
    }

    public int match(int tenant) {
        if (tenant != NONE && !isTenant(tenant)) {
            return NO_MATCH;
        }
        pairs.find(told, now.state);
        return tenant == NONE ? pairs.most : pairs.chosen[tenant];
    }

    // ---- guessing

    public boolean guess(int thought, boolean may) {
        if (!isThought(thought) || now.guessed >= MOST_GUESSES) {
            return false;
        }
        now.guesses[now.guessed] = thought * 2 + (may ? 1 : 0);
        now.guessed++;
        return true;
    }

    public int fits() {
        int set = 0;
        for (int i = 0; i < told.thoughts; i++) {
            if (now.allowsGuessed(told.after[i])) {
                set |= 1 << i;
            }
        }
        return set;
    }

    public int ask() {
        int set = fits();
        int all = Integer.bitCount(set);
        int asked = NONE;
        int least = all;
        for (int i = 0; i < told.thoughts; i++) {
            int yes = Integer.bitCount(set & told.before(i));
            int greater = Math.max(yes, all - yes);
            if (greater < least) {
                least = greater;
                asked = i;
            }
        }
        return asked;
    }

    // ---- counting at rest

    public int rests(int both, int loses, int gets, int what) throws NoSuchElementException {
        if (!isStake(both) || !isStake(loses) || !isStake(gets) || what < NONE) {
            throw new NoSuchElementException();
        }
        int many = 0;
        for (int choices = 0; choices < 4; choices++) {
            int first = choices >> 1;
            int second = choices & 1;
            if (isContent(first, second, both, loses, gets) && isContent(second, first, both, loses, gets)) {
                if (many == what) {
                    return choices;
                }
                many++;
            }
        }
        if (what != NONE) {
            throw new NoSuchElementException();
        }
        return many;
    }

    private static boolean isStake(int stake) {
        return stake >= 0 && stake <= MOST_STAKE;
    }

    private static boolean isContent(int own, int others, int both, int loses, int gets) {
        return gotBy(1 - own, others, both, loses, gets) <= gotBy(own, others, both, loses, gets);
    }

    private static int gotBy(int own, int others, int both, int loses, int gets) {
        if (own == 1) {
            return others == 1 ? both : -loses;
        }
        return others == 1 ? gets : 0;
    }

    private static boolean isIn(int set, int member) {
        return (set >> member & 1) != 0;
    }

    /** The words of the language; NAME is any other word, NOTHING is what is no word. */
    private enum Word {
        NOTHING("", false, 0), NAME("", true, 0),
        THOUGHT_WORD("thought", false, 0), WORTH("worth", false, 0), PART("part", false, 0),
        FOLLOWS("follows", false, 0), TENANT("tenant", false, 0),
        TITHE("tithe", false, ONCE_TITHE), RUNS("runs", false, ONCE_RUNS), ENGINE("engine", false, ONCE_ENGINE),
        GAINS("gains", false, ONCE_GAINS), BACK("back", false, ONCE_BACK),
        THINK_WORD("think", false, THINK), GATE_WORD("gate", false, GATE), POOL_WORD("pool", false, POOL),
        PLAIN_WORD("plain", false, PLAIN), SIMPLE_WORD("simple", false, SIMPLE),
        CLEVER_WORD("clever", false, CLEVER), RUNNER_WORD("runner", false, RUNNER),
        NOT_WORD("not", false, NOT), AND_WORD("and", false, AND), OR_WORD("or", false, OR),
        COUNTED_WORD("counted", true, COUNTED), RICH_WORD("rich", true, RICH),
        PIECE_WORD("piece", true, PIECE), BARN_WORD("barn", true, BARN);

        private static final Word[] ALL = values();

        private final long letters;
        private final boolean mayName;
        private final int value;

        Word(String text, boolean mayName, int value) {
            long packed = 0;
            for (int i = 0; i < text.length(); i++) {
                packed = packed * LETTERS + (text.charAt(i) - BEFORE_A);
            }
            this.letters = packed;
            this.mayName = mayName;
            this.value = value;
        }

        static Word of(long letters) {
            for (int i = 0; i < ALL.length; i++) {
                if (ALL[i].letters == letters) {
                    return ALL[i];
                }
            }
            return NAME;
        }

        boolean isKind() {
            return this == PLAIN_WORD || this == SIMPLE_WORD || this == CLEVER_WORD || this == RUNNER_WORD;
        }

        boolean isFact() {
            return this == COUNTED_WORD || this == RICH_WORD || this == PIECE_WORD || this == BARN_WORD;
        }

        boolean isDeed() {
            return this == THINK_WORD || this == GATE_WORD || this == POOL_WORD;
        }
    }

    /** The TAPE, and the token of it that is looked at. */
    private static final class Tokens {
        static final int END = 0;
        static final int WORD = 1;
        static final int NUMBER = 2;
        static final int WRONG = 3;

        private final byte[] signs = new byte[MOST_SIGNS];
        private int length;
        private int start;
        private int behind;
        /** END, WORD, NUMBER, WRONG, or the sign itself. */
        private int kind;
        private int number;
        private long letters;
        private Word word = Word.NOTHING;

        void addBytes(long bytes) {
            for (int shift = 56; shift >= 0; shift -= 8) {
                int sign = (int) (bytes >>> shift) & 255;
                if ((sign == 10 || sign >= 32 && sign <= 126) && length < MOST_SIGNS) {
                    signs[length] = (byte) sign;
                    length++;
                }
            }
        }

        void empty() {
            length = 0;
        }

        void begin() {
            behind = 0;
            advance();
        }

        void advance() {
            while (behind < length && (signs[behind] == 10 || signs[behind] == 32)) {
                behind++;
            }
            start = behind;
            word = Word.NOTHING;
            int sign = start < length ? signs[start] : NONE;
            if (sign == NONE) {
                kind = END;
            } else if (sign >= 'a' && sign <= 'z') {
                readLetters();
                kind = behind - start <= MOST_LETTERS ? WORD : WRONG;
                word = kind == WORD ? Word.of(letters) : Word.NOTHING;
            } else if (sign >= '0' && sign <= '9') {
                readDigits();
                kind = behind - start <= MOST_DIGITS ? NUMBER : WRONG;
            } else {
                behind++;
                kind = isSign(sign) ? sign : WRONG;
            }
        }

        private static boolean isSign(int sign) {
            return sign == '(' || sign == ')' || sign == '<' || sign == '=' || sign == '+' || sign == '-'
                || sign == '*' || sign == ';';
        }

        private void readLetters() {
            letters = 0;
            while (behind < length && signs[behind] >= 'a' && signs[behind] <= 'z') {
                letters = letters * LETTERS + (signs[behind] - BEFORE_A);
                behind++;
            }
        }

        private void readDigits() {
            number = 0;
            while (behind < length && signs[behind] >= '0' && signs[behind] <= '9') {
                number = number * 10 + (signs[behind] - '0');
                behind++;
            }
        }
    }

    /** Reads the TAPE from the left, up to the first FAULT. */
    private static final class Reader {
        private static final int MISPLACED = 1;
        private static final int UNKNOWN = 2;
        private static final int AGAIN = 3;
        private static final int UNFIT = 4;
        private static final int TOO_MANY = 5;

        // The levels of an E, from the loosest to the PART.
        private static final int JOINED = 0;
        private static final int COMPARED = 1;
        private static final int ADDED = 2;
        private static final int MULTIPLIED = 3;
        private static final int SINGLE = 4;

        private final Tokens tokens;
        private final int[] lines = new int[MOST_LINES];
        private Abbey abbey;
        private int many;
        private int fault;

        Reader(Tokens tokens, Abbey abbey) {
            this.tokens = tokens;
            this.abbey = abbey;
        }

        int readAbbey(Abbey draft) {
            draft.clear();
            begin(draft);
            for (int i = 0; i < MOST_SIGNS && goesOn(); i++) {
                Word word = tokens.word;
                if (word == Word.THOUGHT_WORD) {
                    readThought();
                } else if (word == Word.FOLLOWS) {
                    readFollows();
                } else if (word == Word.TENANT) {
                    readTenant();
                } else if (word == Word.TITHE || word == Word.RUNS || word == Word.ENGINE) {
                    readSetting(word);
                } else if (word == Word.GAINS || word == Word.BACK) {
                    readLaw(word);
                } else {
                    fail(MISPLACED);
                }
            }
            tokens.empty();
            return fault;
        }

        int readYears(Abbey told, Page page) {
            begin(told);
            many = 0;
            for (int i = 0; i < MOST_SIGNS && goesOn(); i++) {
                readLine();
            }
            tokens.empty();
            if (fault == 0) {
                System.arraycopy(lines, 0, page.years, 0, many);
                page.lines = many;
            }
            return fault;
        }

        private void begin(Abbey read) {
            abbey = read;
            fault = 0;
            tokens.begin();
        }

        private boolean goesOn() {
            return fault == 0 && tokens.kind != Tokens.END;
        }

        private void fail(int kind) {
            if (fault == 0) {
                fault = kind + 16 * tokens.start;
            }
        }

        // ---- an ABBEY

        private void readThought() {
            if (abbey.thoughts >= MOST_THOUGHTS) {
                fail(TOO_MANY);
                return;
            }
            tokens.advance();
            long name = newName();
            passWord(Word.WORTH);
            int worth = numberWithin(0, MOST_WORTH);
            passWord(Word.PART);
            int part = numberWithin(0, MOST_PARTS);
            passSign(';');
            if (fault == 0) {
                abbey.addThought(name, worth, part);
            }
        }

        private void readFollows() {
            tokens.advance();
            int follower = thoughtHere();
            passUnlessFault();
            int followed = thoughtHere();
            if (fault == 0 && abbey.isTold(follower, followed)) {
                fail(AGAIN);
            }
            passUnlessFault();
            passSign(';');
            if (fault == 0) {
                abbey.addFollower(follower, followed);
            }
        }

        private void readTenant() {
            if (abbey.tenants >= MOST_TENANTS) {
                fail(TOO_MANY);
                return;
            }
            tokens.advance();
            long name = newName();
            Word kind = tokens.word;
            if (!kind.isKind()) {
                fail(MISPLACED);
            }
            passUnlessFault();
            passSign(';');
            if (fault == 0) {
                abbey.addTenant(name, kind.value);
            }
        }

        private void readSetting(Word word) {
            passOnce(word);
            if (word == Word.TITHE) {
                abbey.tithe = numberWithin(LEAST_TITHE, MOST_TITHE);
            } else if (word == Word.RUNS) {
                abbey.runs = numberWithin(0, MOST_WORTH);
            } else {
                abbey.engine = numberWithin(1, MOST_PARTS);
            }
            passSign(';');
        }

        private void readLaw(Word word) {
            passOnce(word);
            int from = abbey.codeEnd;
            readLevel(JOINED, 0);
            passSign(';');
            if (word == Word.GAINS) {
                abbey.gainsFrom = from;
                abbey.gainsTo = abbey.codeEnd;
            } else {
                abbey.backFrom = from;
                abbey.backTo = abbey.codeEnd;
            }
        }

        private void passOnce(Word word) {
            if ((abbey.once & word.value) != 0) {
                fail(AGAIN);
            }
            abbey.once |= word.value;
            passUnlessFault();
        }

        // ---- the E of a law

        private void readLevel(int level, int depth) {
            if (fault != 0) {
                return;
            }
            if (level >= SINGLE) {
                readPart(depth);
                return;
            }
            readLevel(level + 1, depth);
            for (int i = 0; i < MOST_SIGNS && fault == 0; i++) {
                int operation = operationHere();
                if (levelOf(operation) != level) {
                    return;
                }
                tokens.advance();
                readLevel(level + 1, depth);
                abbey.addCode(operation);
                if (level == COMPARED) {
                    return;
                }
            }
        }

        private int operationHere() {
            switch (tokens.kind) {
                case '<': return LESS;
                case '=': return EQUAL;
                case '+': return PLUS;
                case '-': return MINUS;
                case '*': return TIMES;
                default: return tokens.word == Word.AND_WORD || tokens.word == Word.OR_WORD ? tokens.word.value : 0;
            }
        }

        private static int levelOf(int operation) {
            switch (operation) {
                case AND: case OR: return JOINED;
                case LESS: case EQUAL: return COMPARED;
                case PLUS: case MINUS: return ADDED;
                case TIMES: return MULTIPLIED;
                default: return NONE;
            }
        }

        private void readPart(int depth) {
            boolean isNumber = tokens.kind == Tokens.NUMBER;
            boolean isFact = tokens.word.isFact();
            boolean isNot = tokens.word == Word.NOT_WORD;
            if (!isNumber && !isFact && !isNot && tokens.kind != '(') {
                fail(MISPLACED);
            } else if (depth >= MOST_NESTED) {
                fail(TOO_MANY);
            } else if (isNumber || isFact) {
                abbey.addCode(isNumber ? tokens.number : tokens.word.value);
                tokens.advance();
            } else if (isNot) {
                tokens.advance();
                readPart(depth + 1);
                abbey.addCode(NOT);
            } else {
                tokens.advance();
                readLevel(JOINED, depth + 1);
                passSign(')');
            }
        }

        // ---- YEARS

        private void readLine() {
            Word deed = tokens.word;
            if (!deed.isDeed()) {
                fail(MISPLACED);
                return;
            }
            if (many >= MOST_LINES) {
                fail(TOO_MANY);
                return;
            }
            tokens.advance();
            int tenant = tenantHere();
            passUnlessFault();
            int thought = 0;
            if (deed != Word.GATE_WORD) {
                thought = thoughtHere();
                passUnlessFault();
            }
            passSign(';');
            if (fault == 0) {
                lines[many] = Page.lineOf(deed.value, tenant, thought);
                many++;
            }
        }

        // ---- single tokens

        private void passUnlessFault() {
            if (fault == 0) {
                tokens.advance();
            }
        }

        private void passWord(Word word) {
            if (tokens.word != word) {
                fail(MISPLACED);
            } else if (fault == 0) {
                tokens.advance();
            }
        }

        private void passSign(int sign) {
            if (tokens.kind != sign) {
                fail(MISPLACED);
            } else if (fault == 0) {
                tokens.advance();
            }
        }

        private int numberWithin(int low, int high) {
            int number = tokens.number;
            if (tokens.kind != Tokens.NUMBER) {
                fail(MISPLACED);
            } else if (number < low || number > high) {
                fail(UNFIT);
            }
            passUnlessFault();
            return fault == 0 ? number : low;
        }

        private long newName() {
            long name = tokens.letters;
            if (!tokens.word.mayName) {
                fail(MISPLACED);
            } else if (abbey.thoughtNamed(name) != NONE || abbey.tenantNamed(name) != NONE) {
                fail(AGAIN);
            }
            passUnlessFault();
            return name;
        }

        private int thoughtHere() {
            return foundHere(abbey.thoughtNamed(tokens.letters));
        }

        private int tenantHere() {
            return foundHere(abbey.tenantNamed(tokens.letters));
        }

        private int foundHere(int found) {
            if (!tokens.word.mayName) {
                fail(MISPLACED);
            } else if (found == NONE) {
                fail(UNKNOWN);
            }
            return fault == 0 ? found : 0;
        }
    }

    /** What an ABBEY's text told. */
    private static final class Abbey {
        // Four levels of operations and a PART at each of five depths leave no more than 21 values open.
        private static final int MOST_OPEN = 32;

        private final long[] thoughtNames = new long[MOST_THOUGHTS];
        private final int[] worth = new int[MOST_THOUGHTS];
        private final int[] part = new int[MOST_THOUGHTS];
        /** Of each THOUGHT what may follow it, as bits. */
        private final int[] after = new int[MOST_THOUGHTS];
        private final long[] tenantNames = new long[MOST_TENANTS];
        private final int[] kind = new int[MOST_TENANTS];
        /** Both laws, behind one another, as codes that work on a stack. */
        private final int[] code = new int[MOST_SIGNS];
        private final int[] open = new int[MOST_OPEN];
        private int thoughts;
        private int tenants;
        private int tithe;
        private int runs;
        private int engine;
        private int once;
        private int codeEnd;
        private int gainsFrom;
        private int gainsTo;
        private int backFrom;
        private int backTo;

        Abbey() {
            clear();
        }

        void clear() {
            thoughts = 0;
            tenants = 0;
            tithe = 10;
            runs = 10;
            engine = 3;
            once = 0;
            codeEnd = 0;
        }

        void addThought(long name, int itsWorth, int itsPart) {
            if (thoughts < MOST_THOUGHTS) {
                thoughtNames[thoughts] = name;
                worth[thoughts] = itsWorth;
                part[thoughts] = itsPart;
                after[thoughts] = 0;
                thoughts++;
            }
        }

        void addTenant(long name, int itsKind) {
            if (tenants < MOST_TENANTS) {
                tenantNames[tenants] = name;
                kind[tenants] = itsKind;
                tenants++;
            }
        }

        boolean isTold(int follower, int followed) {
            return isIn(after[followed], follower);
        }

        void addFollower(int follower, int followed) {
            after[followed] |= 1 << follower;
        }

        int thoughtNamed(long name) {
            return placeOf(name, thoughtNames, thoughts);
        }

        int tenantNamed(long name) {
            return placeOf(name, tenantNames, tenants);
        }

        private static int placeOf(long name, long[] names, int many) {
            for (int i = 0; i < many; i++) {
                if (names[i] == name) {
                    return i;
                }
            }
            return NONE;
        }

        int allThoughts() {
            return (1 << thoughts) - 1;
        }

        int allParts() {
            return (1 << engine) - 1;
        }

        /** What may follow one of a set at least. */
        int afterAny(int set) {
            int next = 0;
            for (int i = 0; i < thoughts; i++) {
                if (isIn(set, i)) {
                    next |= after[i];
                }
            }
            return next;
        }

        /** What a THOUGHT may follow. */
        int before(int thought) {
            int set = 0;
            for (int i = 0; i < thoughts; i++) {
                if (isIn(after[i], thought)) {
                    set |= 1 << i;
                }
            }
            return set;
        }

        void addCode(int sign) {
            if (codeEnd < MOST_SIGNS) {
                code[codeEnd] = sign;
                codeEnd++;
            }
        }

        int gainOf(int thought, int counted, int inBarn) {
            int gain = worth[thought];
            if ((once & ONCE_GAINS) != 0) {
                gain = valueOf(gainsFrom, gainsTo, counted, worth[thought], part[thought], inBarn);
            }
            return Math.max(-MOST_GAIN, Math.min(MOST_GAIN, gain));
        }

        int countedBehindGate(int last, int counted, int inBarn) {
            int left = 0;
            if ((once & ONCE_BACK) != 0) {
                int rich = last == NONE ? 0 : worth[last];
                int piece = last == NONE ? 0 : part[last];
                left = valueOf(backFrom, backTo, counted, rich, piece, inBarn);
            }
            return Math.max(0, Math.min(counted, left));
        }

        private int valueOf(int from, int to, int counted, int rich, int piece, int inBarn) {
            int top = 0;
            for (int i = from; i < to; i++) {
                int sign = code[i];
                if (sign > NOT && top < MOST_OPEN) {
                    open[top] = sign >= 0 ? sign : factOf(sign, counted, rich, piece, inBarn);
                    top++;
                } else if (sign == NOT && top > 0) {
                    open[top - 1] = open[top - 1] == 0 ? 1 : 0;
                } else if (sign < NOT && top > 1) {
                    top--;
                    open[top - 1] = joined(sign, open[top - 1], open[top]);
                }
            }
            return top > 0 ? open[top - 1] : 0;
        }

        private static int factOf(int sign, int counted, int rich, int piece, int inBarn) {
            switch (sign) {
                case COUNTED: return counted;
                case RICH: return rich;
                case PIECE: return piece;
                default: return inBarn;
            }
        }

        private static int joined(int operation, int left, int right) {
            switch (operation) {
                case AND: return left != 0 && right != 0 ? 1 : 0;
                case OR: return left != 0 || right != 0 ? 1 : 0;
                case LESS: return left < right ? 1 : 0;
                case EQUAL: return left == right ? 1 : 0;
                case PLUS: return left + right;
                case MINUS: return left - right;
                default: return left * right;
            }
        }
    }

    /** How it is with the TENANTS and the BARN. */
    private static final class State {
        private static final int ROW_BITS = 4;

        private final int[] last = new int[MOST_TENANTS];
        private final int[] counted = new int[MOST_TENANTS];
        private final int[] gained = new int[MOST_TENANTS];
        /** The counted THOUGHTS of each TENANT, the oldest in the lowest four bits. */
        private final long[] row = new long[MOST_TENANTS];
        private final int[] kept = new int[MOST_TENANTS * MOST_THOUGHTS];
        private final int[] barn = new int[MOST_THOUGHTS];
        private int inBarn;
        private int ran;
        /** Who has THOUGHT anything, ever. */
        private int began;

        State() {
            clear();
        }

        void clear() {
            Arrays.fill(last, NONE);
            Arrays.fill(counted, 0);
            Arrays.fill(gained, 0);
            Arrays.fill(row, 0L);
            Arrays.fill(kept, 0);
            Arrays.fill(barn, 0);
            inBarn = 0;
            ran = 0;
            began = 0;
        }

        void copy(State from) {
            System.arraycopy(from.last, 0, last, 0, MOST_TENANTS);
            System.arraycopy(from.counted, 0, counted, 0, MOST_TENANTS);
            System.arraycopy(from.gained, 0, gained, 0, MOST_TENANTS);
            System.arraycopy(from.row, 0, row, 0, MOST_TENANTS);
            System.arraycopy(from.kept, 0, kept, 0, MOST_TENANTS * MOST_THOUGHTS);
            System.arraycopy(from.barn, 0, barn, 0, MOST_THOUGHTS);
            inBarn = from.inBarn;
            ran = from.ran;
            began = from.began;
        }

        boolean hasRun(int tenant) {
            return isIn(ran, tenant);
        }

        int keptOf(int tenant, int thought) {
            return kept[tenant * MOST_THOUGHTS + thought];
        }

        /** What may come behind a TENANT's last THOUGHT, as if nobody had run. */
        int mayCome(Abbey abbey, int tenant) {
            int before = last[tenant];
            return before == NONE ? abbey.allThoughts() : abbey.after[before];
        }

        int canThink(Abbey abbey, int tenant) {
            return hasRun(tenant) ? 0 : mayCome(abbey, tenant);
        }

        boolean mayThink(Abbey abbey, int tenant, int thought) {
            return isIn(canThink(abbey, tenant), thought);
        }

        boolean mayGive(int tenant, int thought) {
            return !hasRun(tenant) && keptOf(tenant, thought) > 0;
        }

        int worthKept(Abbey abbey, int tenant) {
            int sum = 0;
            for (int i = 0; i < abbey.thoughts; i++) {
                sum += abbey.worth[i] * keptOf(tenant, i);
            }
            return sum;
        }

        int gainedByAll() {
            int sum = 0;
            for (int i = 0; i < MOST_TENANTS; i++) {
                sum += gained[i];
            }
            return sum;
        }

        /** What is counted with the next THOUGHT. */
        int nextCounted(Abbey abbey, int tenant) {
            return abbey.kind[tenant] == SIMPLE ? 0 : counted[tenant] + 1;
        }

        /** Whether the next THOUGHT brings a TITHE, or one runs with it. */
        boolean isDue(Abbey abbey, int tenant, int tithe) {
            if (abbey.kind[tenant] == SIMPLE) {
                return !isIn(began, tenant);
            }
            return nextCounted(abbey, tenant) >= tithe;
        }

        /** For a THOUGHT that may be: the TITHE that came to the BARN, or NO_TITHE. */
        int thinkOf(Abbey abbey, int tenant, int thought, int tithe) {
            int count = nextCounted(abbey, tenant);
            int gain = abbey.gainOf(thought, count, inBarn);
            boolean due = isDue(abbey, tenant, tithe);
            began |= 1 << tenant;
            last[tenant] = thought;
            if (count > 0) {
                row[tenant] |= (long) thought << ROW_BITS * (count - 1);
                counted[tenant] = count;
            }
            if (due) {
                return pay(abbey, tenant, thought, gain);
            }
            keep(tenant, thought, gain);
            return NO_TITHE;
        }

        private int pay(Abbey abbey, int tenant, int thought, int gain) {
            boolean runs = abbey.kind[tenant] == RUNNER && abbey.worth[thought] > abbey.runs;
            int place = abbey.kind[tenant] == CLEVER ? placeOfLeast(abbey, tenant) : NONE;
            boolean earlier = place != NONE && place < counted[tenant] - 1;
            int given = earlier ? countedAt(tenant, place) : thought;
            counted[tenant] = 0;
            row[tenant] = 0;
            if (runs) {
                ran |= 1 << tenant;
            } else {
                barn[given]++;
                inBarn++;
            }
            if (earlier && keptOf(tenant, given) > 0) {
                kept[tenant * MOST_THOUGHTS + given]--;
            }
            if (runs || earlier) {
                keep(tenant, thought, gain);
            }
            return runs ? NO_TITHE : given;
        }

        private void keep(int tenant, int thought, int gain) {
            kept[tenant * MOST_THOUGHTS + thought]++;
            gained[tenant] += gain;
        }

        private int countedAt(int tenant, int place) {
            return (int) (row[tenant] >>> ROW_BITS * place) & MOST_THOUGHTS - 1;
        }

        private int placeOfLeast(Abbey abbey, int tenant) {
            int least = 0;
            for (int i = 1; i < counted[tenant]; i++) {
                if (abbey.worth[countedAt(tenant, i)] < abbey.worth[countedAt(tenant, least)]) {
                    least = i;
                }
            }
            return least;
        }

        /** The least worth of what is counted; more than any worth if nothing is. */
        int leastCounted(Abbey abbey, int tenant) {
            int place = placeOfLeast(abbey, tenant);
            return counted[tenant] == 0 ? MOST_WORTH + 1 : abbey.worth[countedAt(tenant, place)];
        }

        int goBack(Abbey abbey, int tenant) {
            int was = counted[tenant];
            int left = abbey.countedBehindGate(last[tenant], was, inBarn);
            row[tenant] >>>= ROW_BITS * (was - left);
            counted[tenant] = left;
            last[tenant] = NONE;
            return left;
        }

        void give(int tenant, int thought) {
            kept[tenant * MOST_THOUGHTS + thought]--;
            barn[thought]++;
            inBarn++;
        }
    }

    /** What a MARK holds: how it is, the YEARS, the GUESSES. */
    private static final class Page {
        private final State state = new State();
        private final int[] years = new int[MOST_LINES];
        private final int[] guesses = new int[MOST_GUESSES];
        private int lines;
        private int guessed;
        private boolean laid;

        void clear() {
            state.clear();
            lines = 0;
            guessed = 0;
        }

        void copy(Page from) {
            state.copy(from.state);
            System.arraycopy(from.years, 0, years, 0, MOST_LINES);
            System.arraycopy(from.guesses, 0, guesses, 0, MOST_GUESSES);
            lines = from.lines;
            guessed = from.guessed;
        }

        static int lineOf(int deed, int tenant, int thought) {
            return deed * 64 + tenant * 8 + thought;
        }

        /** Whether one that these may follow would be as all GUESSES say. */
        boolean allowsGuessed(int followers) {
            for (int i = 0; i < guessed; i++) {
                if (isIn(followers, guesses[i] >> 1) != ((guesses[i] & 1) == 1)) {
                    return false;
                }
            }
            return true;
        }
    }

    /** The last states, in a ring, to go back to. */
    private static final class Undone {
        private final State[] states = new State[MOST_UNDONE];
        private int next;
        private int many;

        Undone() {
            for (int i = 0; i < MOST_UNDONE; i++) {
                states[i] = new State();
            }
        }

        void clear() {
            many = 0;
        }

        void hold(State state) {
            states[next].copy(state);
            next = (next + 1) % MOST_UNDONE;
            many = Math.min(many + 1, MOST_UNDONE);
        }

        boolean takeBack(State state) {
            if (many == 0) {
                return false;
            }
            next = (next + MOST_UNDONE - 1) % MOST_UNDONE;
            many--;
            state.copy(states[next]);
            return true;
        }
    }

    /** A life on a state of its own: by YEARS from the beginning, or by DRAWS from now on. */
    private static final class Course {
        private final State state = new State();
        private int tithes;
        private int leftOut;
        private int firstTithe;
        private long drawn;

        void liveYears(Abbey abbey, Page page, int tithe) {
            state.clear();
            tithes = 0;
            leftOut = NONE;
            firstTithe = NONE;
            for (int i = 0; i < page.lines; i++) {
                int tithesBefore = tithes;
                int ranBefore = state.ran;
                if (!live(abbey, page.years[i], tithe) && leftOut == NONE) {
                    leftOut = i;
                }
                boolean came = tithes != tithesBefore || state.ran != ranBefore;
                if (came && firstTithe == NONE) {
                    firstTithe = i;
                }
            }
        }

        private boolean live(Abbey abbey, int line, int tithe) {
            int tenant = line >> 3 & 7;
            int thought = line & 7;
            if (tenant >= abbey.tenants) {
                return false;
            }
            switch (line >> 6) {
                case THINK: return tryThink(abbey, tenant, thought, tithe);
                case GATE: return tryGate(abbey, tenant);
                default: return tryPool(tenant, thought);
            }
        }

        private boolean tryThink(Abbey abbey, int tenant, int thought, int tithe) {
            if (!state.mayThink(abbey, tenant, thought)) {
                return false;
            }
            if (state.thinkOf(abbey, tenant, thought, tithe) != NO_TITHE) {
                tithes++;
            }
            return true;
        }

        private boolean tryGate(Abbey abbey, int tenant) {
            if (state.hasRun(tenant)) {
                return false;
            }
            state.goBack(abbey, tenant);
            return true;
        }

        private boolean tryPool(int tenant, int thought) {
            if (!state.mayGive(tenant, thought)) {
                return false;
            }
            state.give(tenant, thought);
            return true;
        }

        void liveByDraws(Abbey abbey, State from, int seed, int steps) {
            state.copy(from);
            tithes = 0;
            drawn = seed;
            if (abbey.tenants == 0 || abbey.thoughts == 0) {
                return;
            }
            for (int i = 0; i < steps; i++) {
                int tenant = drawBelow(abbey.tenants);
                int thought = drawBelow(abbey.thoughts);
                if (!tryThink(abbey, tenant, thought, abbey.tithe)) {
                    tryGate(abbey, tenant);
                }
            }
        }

        private int drawBelow(int bound) {
            drawn = (drawn * 1103515245L + 12345L) % 2147483648L;
            return bound < 1 ? 0 : (int) (drawn / 65536L % bound);
        }
    }

    /** How much lies on each THOUGHT, led on to those that may follow. */
    private static final class Spread {
        private final int[] has = new int[MOST_THOUGHTS];
        private final int[] gets = new int[MOST_THOUGHTS];

        void begin(int set, int each) {
            for (int i = 0; i < MOST_THOUGHTS; i++) {
                has[i] = isIn(set, i) ? each : 0;
            }
        }

        /** Each that may follow gets all that lies there, or (shared) an equal part of it. */
        void follow(Abbey abbey, boolean shared) {
            Arrays.fill(gets, 0);
            for (int i = 0; i < abbey.thoughts; i++) {
                int followers = Integer.bitCount(abbey.after[i]);
                if (followers > 0) {
                    handOn(abbey.after[i], shared ? has[i] / followers : has[i]);
                }
            }
            System.arraycopy(gets, 0, has, 0, MOST_THOUGHTS);
        }

        private void handOn(int followers, int each) {
            for (int i = 0; i < MOST_THOUGHTS; i++) {
                if (isIn(followers, i)) {
                    gets[i] += each;
                }
            }
        }
    }

    /**
     * The row of THOUGHTS by which one gains the most. What is counted and what lies in the BARN depend on the
     * place in the row alone, so a gain is worked out once for a place and a THOUGHT; only a clever one's TITHE
     * looks back, and by nothing but the least worth that was counted.
     */
    private static final class BestRow {
        static final int NO_ROW = Integer.MIN_VALUE;
        private static final int NOT_YET = Integer.MAX_VALUE;
        private static final int WORTHS = MOST_WORTH + 2;

        private final int[] chosen = new int[MOST_ROW];
        private final int[] gains = new int[MOST_ROW * MOST_THOUGHTS];
        private final boolean[] due = new boolean[MOST_ROW];
        private final int[] found = new int[MOST_ROW * MOST_THOUGHTS * WORTHS];
        private int kind;
        private int many;

        int find(Abbey abbey, State state, int tenant, int howMany) {
            many = Math.min(howMany, MOST_ROW);
            kind = abbey.kind[tenant];
            Arrays.fill(found, NOT_YET);
            foresee(abbey, state, tenant);
            int can = state.canThink(abbey, tenant);
            int least = state.leastCounted(abbey, tenant);
            int most = mostFrom(abbey, 0, can, least);
            if (most != NO_ROW) {
                choose(abbey, can, least);
            }
            return most;
        }

        private void foresee(Abbey abbey, State state, int tenant) {
            int counted = state.counted[tenant];
            int inBarn = state.inBarn;
            for (int place = 0; place < many; place++) {
                boolean simple = kind == SIMPLE;
                counted = simple ? 0 : counted + 1;
                due[place] = simple ? place == 0 && !isIn(state.began, tenant) : counted >= abbey.tithe;
                for (int i = 0; i < abbey.thoughts; i++) {
                    gains[place * MOST_THOUGHTS + i] = abbey.gainOf(i, counted, inBarn);
                }
                if (due[place]) {
                    counted = 0;
                    inBarn++;
                }
            }
        }

        private int mostFrom(Abbey abbey, int place, int can, int least) {
            int most = NO_ROW;
            for (int i = 0; i < abbey.thoughts; i++) {
                if (isIn(can, i)) {
                    most = Math.max(most, mostWith(abbey, place, i, least));
                }
            }
            return most;
        }

        /** What is gained by a THOUGHT at a place, and by the best behind it. */
        private int mostWith(Abbey abbey, int place, int thought, int least) {
            boolean isLast = place + 1 >= many;
            if (isLast) {
                return gainAt(abbey, place, thought, least);
            }
            if (runsAt(abbey, place, thought)) {
                return NO_ROW;
            }
            int leastThen = leastBehind(abbey, place, thought, least);
            int key = ((place + 1) * MOST_THOUGHTS + thought) * WORTHS + leastThen;
            if (found[key] == NOT_YET) {
                found[key] = mostFrom(abbey, place + 1, abbey.after[thought], leastThen);
            }
            return found[key] == NO_ROW ? NO_ROW : gainAt(abbey, place, thought, least) + found[key];
        }

        private boolean runsAt(Abbey abbey, int place, int thought) {
            return due[place] && kind == RUNNER && abbey.worth[thought] > abbey.runs;
        }

        private int gainAt(Abbey abbey, int place, int thought, int least) {
            boolean isKept = !due[place] || runsAt(abbey, place, thought)
                || kind == CLEVER && abbey.worth[thought] >= least;
            return isKept ? gains[place * MOST_THOUGHTS + thought] : 0;
        }

        private int leastBehind(Abbey abbey, int place, int thought, int least) {
            if (kind != CLEVER || due[place]) {
                return MOST_WORTH + 1;
            }
            return Math.min(least, abbey.worth[thought]);
        }

        private void choose(Abbey abbey, int first, int leastCounted) {
            int can = first;
            int least = leastCounted;
            for (int place = 0; place < many; place++) {
                int most = mostFrom(abbey, place, can, least);
                int taken = 0;
                while (taken < abbey.thoughts - 1
                    && !(isIn(can, taken) && mostWith(abbey, place, taken, least) == most)) {
                    taken++;
                }
                chosen[place] = taken;
                can = abbey.after[taken];
                least = leastBehind(abbey, place, taken, least);
            }
        }
    }

    /** The pairs of TENANTS by which the products of their DOWRIES are the most. */
    private static final class Pairs {
        private final int[] chosen = new int[MOST_TENANTS];
        private final int[] tried = new int[MOST_TENANTS];
        private final int[] dowries = new int[MOST_TENANTS];
        private int tenants;
        private int most;

        void find(Abbey abbey, State state) {
            tenants = abbey.tenants;
            for (int i = 0; i < tenants; i++) {
                dowries[i] = state.worthKept(abbey, i);
            }
            most = NONE;
            pairFrom(0, 0, 0);
        }

        /** Rows are tried from the first one on, so a later one must be more to be taken. */
        private void pairFrom(int tenant, int paired, int sum) {
            if (tenant >= tenants) {
                if (sum > most) {
                    most = sum;
                    System.arraycopy(tried, 0, chosen, 0, MOST_TENANTS);
                }
                return;
            }
            if (isIn(paired, tenant)) {
                pairFrom(tenant + 1, paired, sum);
                return;
            }
            tried[tenant] = tenant;
            pairFrom(tenant + 1, paired, sum);
            for (int i = tenant + 1; i < tenants; i++) {
                if (!isIn(paired, i)) {
                    tried[tenant] = i;
                    tried[i] = tenant;
                    pairFrom(tenant + 1, paired | 1 << i, sum + dowries[tenant] * dowries[i]);
                }
            }
        }
    }
}
