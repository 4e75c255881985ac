import java.util.NoSuchElementException;

/** An army that gives out its commands by raffle: told in a language, played by hand, and reckoned over. */
public final class RaffleArmy {
    public static final int NONE = -1;

    /** What calls answer that cannot answer and for which NONE already means something. */
    private static final int OTHER = -2;

    private static final int TAPE_SIGNS = 1000;
    private static final int MOST = 6;
    private static final int MOST_LINES = 24;
    private static final int MOST_UNDONE = 16;
    private static final int MOST_MARKS = 4;
    private static final int MOST_SEEN = 5;
    private static final int MOST_TOLD = 8;
    private static final int MOST_MORE = 8;
    private static final int MOST_PLANNED = 5;
    private static final int MOST_CELLS = 40;
    private static final int MOST_SEED = 9999;
    private static final int MOST_COINS = 999;
    private static final int MOST_STRENGTH = 999;
    private static final int MOST_WEEKS = 13;
    private static final int MOST_QUARTERS = 40;
    private static final int MOST_WEIGHT = 9;
    private static final int MOST_WITHIN = 5;
    private static final int MOST_SKILL = 99;
    private static final int MILLION = 1000000;

    private static final int KEPT = 0;
    private static final int ONCE = 1;
    private static final int WAR_LINE = 2;
    private static final int AN_ORDER = 3;
    private static final int A_KIND = 4;
    private static final int FACT_OF_MEN = 5;
    private static final int FACT_OF_FRONT = 6;

    private static final int HOLD = 0;
    private static final int PUSH = 1;
    private static final int YIELD = 2;
    private static final int ORDERS = 3;

    private static final int HORSE = 1;
    private static final int MULE = 2;
    private static final int FOE = 3;

    private static final int STANDS_WRONG = 1;
    private static final int UNKNOWN = 2;
    private static final int TOLD_TWICE = 3;
    private static final int BAD_NUMBER = 4;
    private static final int TOO_MANY = 5;

    private static final Word[] WORDS = Word.values();

    private final Tape tape = new Tape();
    private final State now = new State();
    private final State trial = new State();
    private final Notes notes = new Notes();
    private final Ways ways = new Ways();
    private final Trade trade = new Trade();
    private final Raffle raffle = new Raffle();
    private final State[] past = new State[MOST_UNDONE];
    private final State[] markStates = new State[MOST_MARKS];
    private final Notes[] markNotes = new Notes[MOST_MARKS];
    private final int[] row = new int[MOST_CELLS + 1];
    private Army army = new Army();
    private Army armyDraft = new Army();
    private War war = new War();
    private War warDraft = new War();
    private int pastMany;
    private int pastNext;
    private int marksLaid;

    public RaffleArmy() {
        for (int i = 0; i < MOST_UNDONE; i++) {
            past[i] = new State();
        }
        for (int i = 0; i < MOST_MARKS; i++) {
            markStates[i] = new State();
            markNotes[i] = new Notes();
        }
        now.begin(army);
    }

    public int feed(long a, long b, long c) {
        tape.addEight(a);
        tape.addEight(b);
        tape.addEight(c);
        return tape.many;
    }

    public int army() {
        int fault = armyDraft.readFrom(tape);
        if (fault != 0) {
            return fault;
        }
        Army told = armyDraft;
        armyDraft = army;
        army = told;
        now.begin(army);
        notes.forget();
        war.many = 0;
        ways.known = false;
        pastMany = 0;
        marksLaid = 0;
        return 0;
    }

    public int war() {
        int fault = warDraft.readFrom(tape, army);
        if (fault != 0) {
            return fault;
        }
        War told = warDraft;
        warDraft = war;
        war = told;
        return 0;
    }

    public int post(int post, int what) {
        if (!army.hasPost(post)) {
            return NONE;
        }
        switch (what) {
            case 0:
                return at(army.kind, post);
            case 1:
                return at(army.weighs, post);
            case 2:
                return at(army.under, post);
            case 3:
                return at(now.manOf, post);
            case 4:
                return army.obeying(now.manOf) >> post & 1;
            default:
                return NONE;
        }
    }

    public int man(int man, int what) {
        if (!army.hasMan(man)) {
            return NONE;
        }
        switch (what) {
            case 0:
                return at(army.brave, man);
            case 1:
                return at(army.wit, man);
            case 2:
                return at(now.coins, man);
            case 3:
                return now.postOf(man);
            default:
                return NONE;
        }
    }

    public int skill(int man, int post) {
        return army.hasMan(man) && army.hasPost(post) ? army.skillOf(man, post) : NONE;
    }

    public int ours() {
        return army.strength(now.manOf);
    }

    public boolean draw(int seed) {
        if (!within(seed, 0, MOST_SEED)) {
            return false;
        }
        remember();
        raffle.sow(seed);
        raffle.deal(army, now);
        return true;
    }

    public boolean sell(int seller, int buyer, int coins) {
        if (!now.canTrade(army, seller, buyer, coins)) {
            return false;
        }
        remember();
        now.trade(seller, buyer, coins);
        return true;
    }

    public boolean order(int order) {
        if (!now.canCommand(order)) {
            return false;
        }
        remember();
        now.order = order;
        return true;
    }

    public int weeks(int many) {
        if (!within(many, 1, MOST_WEEKS) || !now.canPass(army)) {
            return NONE;
        }
        remember();
        return now.pass(army, many);
    }

    public boolean undo() {
        int last = (pastNext + MOST_UNDONE - 1) % MOST_UNDONE;
        if (pastMany <= 0 || last < 0) {
            return false;
        }
        now.copyFrom(past[last]);
        pastNext = last;
        pastMany--;
        return true;
    }

    public int judged(int what) {
        if (!within(what, 0, 2)) {
            return OTHER;
        }
        trial.begin(army);
        int bad = war.runOn(army, trial, raffle);
        if (what == 0) {
            return bad;
        }
        return what == 1 ? trial.front : trial.week;
    }

    public int first() {
        int obeying = army.obeying(now.manOf);
        for (int post = 0; post < army.posts; post++) {
            boolean heedsNobody = at(now.manOf, post) != NONE && (obeying >> post & 1) == 0;
            int above = at(army.under, post);
            if (heedsNobody && above != NONE
                    && ((obeying >> above & 1) == 1 || at(now.manOf, above) == NONE)) {
                return post;
            }
        }
        return NONE;
    }

    public int best(int what) {
        ways.learn(army);
        if (what == NONE) {
            return ways.most;
        }
        return army.hasPost(what) ? at(ways.mostBy, what) : OTHER;
    }

    public int mean() {
        ways.learn(army);
        return ways.thousandths(ways.sum);
    }

    public int loss() {
        ways.learn(army);
        return ways.most * 1000 - ways.thousandths(ways.sum);
    }

    public int plan(int weeks, int what) {
        if (!within(weeks, 1, MOST_PLANNED) || !within(what, 0, weeks)) {
            return NONE;
        }
        ways.learn(army);
        long reached = ways.furthest(army, now.front, weeks);
        return what == 0 ? ways.thousandths(reached) : at(ways.planned, what - 1);
    }

    public int swaps(int man) {
        if (!army.hasMan(man)) {
            return OTHER;
        }
        trade.swapAll(army, now);
        return at(trade.gets, man);
    }

    public int leave() {
        trade.swapAll(army, now);
        int bits = 0;
        for (int man = 0; man < army.men; man++) {
            if (at(trade.gets, man) != now.postOf(man)) {
                bits |= 1 << man;
            }
        }
        return bits;
    }

    public int pool(int men) {
        return canPool(men) ? trade.worthOf(army, now, men) : NONE;
    }

    public int share(int men, int man) {
        if (!canPool(men) || !army.hasMan(man) || (men >> man & 1) == 0) {
            return NONE;
        }
        return trade.shareOf(army, now, men, man);
    }

    public boolean tell(int man, int post) {
        if (!army.hasMan(man) || !army.hasPost(post) || notes.toldMany >= MOST_TOLD) {
            return false;
        }
        put(notes.toldMan, notes.toldMany, man);
        put(notes.toldPost, notes.toldMany, post);
        notes.toldMany++;
        return true;
    }

    public int fair(int man, int weighs) {
        if (!canWeigh(man, weighs)) {
            return NONE;
        }
        return chance(man, weighs, 0);
    }

    public int more(int man, int weighs, int millionths) {
        if (!canWeigh(man, weighs) || !within(millionths, 1, MILLION)) {
            return NONE;
        }
        for (int extra = 0; extra <= MOST_MORE; extra++) {
            if (chance(man, weighs, extra) < millionths) {
                return extra;
            }
        }
        return NONE;
    }

    public boolean see(int front) {
        if (!within(front, 0, army.cells) || notes.seenMany >= MOST_SEEN) {
            return false;
        }
        put(notes.seen, notes.seenMany, front);
        notes.seenMany++;
        return true;
    }

    public int orders(int what) {
        int rows = rowsSeen();
        if (what == NONE) {
            return rows;
        }
        return rows > 0 && within(what, 0, notes.seenMany - 1) ? at(row, what) : OTHER;
    }

    public int putOff(int what) {
        if (!within(what, 0, 1)) {
            return OTHER;
        }
        boolean ended = now.front <= 0 || now.front >= army.cells;
        if (ended) {
            return what == 0 && now.front <= 0 ? 0 : NONE;
        }
        int ours = army.strength(now.manOf);
        fillDelays(ours);
        return what == 0 ? at(row, now.front) : firstDelaying(ours);
    }

    public int rests(int ours, int theirs, int what) throws NoSuchElementException {
        if (!within(ours, 0, MOST_STRENGTH) || !within(theirs, 0, MOST_STRENGTH) || what < NONE) {
            throw new NoSuchElementException();
        }
        int ourBest = bestOf(army.move(ours, theirs, HOLD), army.move(ours, theirs, PUSH));
        int theirBest = bestOf(army.move(theirs, ours, HOLD), army.move(theirs, ours, PUSH));
        int many = 0;
        for (int pair = 0; pair < 4; pair++) {
            if ((ourBest >> (pair >> 1) & 1) == 1 && (theirBest >> (pair & 1) & 1) == 1) {
                if (many == what) {
                    return pair;
                }
                many++;
            }
        }
        if (what != NONE) {
            throw new NoSuchElementException();
        }
        return many;
    }

    public int years(int seed, int quarters, int what) {
        if (!within(seed, 0, MOST_SEED) || !within(quarters, 1, MOST_QUARTERS) || !within(what, 0, 2)) {
            return NONE;
        }
        trial.copyFrom(now);
        raffle.sow(seed);
        int passed = 0;
        int unheeded = 0;
        for (int quarter = 0; quarter < quarters; quarter++) {
            raffle.deal(army, trial);
            trial.order = raffle.below(ORDERS);
            trial.week = 0;
            int leader = at(trial.manOf, 0);
            if (leader != NONE && army.skillOf(leader, 0) < army.heed) {
                unheeded++;
            }
            passed += trial.pass(army, army.quarter);
        }
        if (what == 0) {
            return trial.front;
        }
        return what == 1 ? passed : unheeded;
    }

    public boolean mark(int mark, boolean back) {
        if (mark < 0 || mark >= MOST_MARKS || back && (marksLaid >> mark & 1) == 0) {
            return false;
        }
        if (back) {
            now.copyFrom(markStates[mark]);
            notes.copyFrom(markNotes[mark]);
            pastMany = 0;
        } else {
            markStates[mark].copyFrom(now);
            markNotes[mark].copyFrom(notes);
            marksLaid |= 1 << mark;
        }
        return true;
    }

    public int count(int what) {
        switch (what) {
            case 0:
                return army.posts;
            case 1:
                return army.men;
            case 2:
                return army.cells;
            case 3:
                return now.front;
            case 4:
                return now.week;
            case 5:
                return now.order;
            case 6:
                return now.coinsOfAll(army);
            case 7:
                return war.many;
            case 8:
                return notes.seenMany;
            case 9:
                return notes.toldMany;
            case 10:
                return pastMany;
            case 11:
                return tape.many;
            case 12:
                return now.over ? 1 : 0;
            default:
                return NONE;
        }
    }

    private void remember() {
        if (pastNext < 0 || pastNext >= MOST_UNDONE) {
            pastNext = 0;
        }
        past[pastNext].copyFrom(now);
        pastNext = (pastNext + 1) % MOST_UNDONE;
        pastMany = Math.min(pastMany + 1, MOST_UNDONE);
    }

    /** Whether the bits name at least one MAN, and only such as have POSTS. */
    private boolean canPool(int men) {
        if (men <= 0 || men >= 1 << army.men) {
            return false;
        }
        for (int man = 0; man < army.men; man++) {
            if ((men >> man & 1) == 1 && now.postOf(man) == NONE) {
                return false;
            }
        }
        return true;
    }

    private boolean canWeigh(int man, int weighs) {
        return army.hasMan(man) && within(weighs, 1, MOST_WEIGHT) && notes.ticketsOf(man) > 0;
    }

    /** The chance of FAIR in millionths, if so many draws more had all brought it. */
    private int chance(int man, int weighs, int extra) {
        int draws = notes.ticketsOf(man) + extra;
        int hits = extra;
        for (int i = 0; i < notes.toldMany; i++) {
            if (at(notes.toldMan, i) == man && at(army.weighs, at(notes.toldPost, i)) >= weighs) {
                hits++;
            }
        }
        int lucky = 0;
        for (int post = 0; post < army.posts && post < army.men; post++) {
            if (at(army.weighs, post) >= weighs) {
                lucky++;
            }
        }
        long all = power(army.men, draws);
        return all > 0 ? (int) (luckyWays(lucky, army.men - lucky, draws, hits) * MILLION / all) : NONE;
    }

    /** Of all rows of draws, those with no fewer hits than told; 6 to the 16th at most. */
    private static long luckyWays(int lucky, int unlucky, int draws, int hits) {
        long sum = 0;
        long choices = 1;
        for (int many = 0; many <= draws; many++) {
            if (many >= hits) {
                sum += choices * power(lucky, many) * power(unlucky, draws - many);
            }
            choices = choices * (draws - many) / (many + 1);
        }
        return sum;
    }

    private static long power(int base, int times) {
        long product = 1;
        for (int i = 0; i < times; i++) {
            product *= base;
        }
        return product;
    }

    /** How many rows of orders lead along what is SEEN; the first of them goes into the row. */
    private int rowsSeen() {
        int ours = army.strength(now.manOf);
        int rows = 1;
        int front = now.front;
        for (int week = 0; week < notes.seenMany; week++) {
            int next = at(notes.seen, week);
            int fitting = 0;
            for (int order = ORDERS - 1; order >= 0; order--) {
                if (army.after(front, army.move(ours, army.theirs, order)) == next) {
                    fitting++;
                    put(row, week, order);
                }
            }
            rows *= fitting;
            front = next;
        }
        return rows;
    }

    /**
     * How long a defeat can be put off, for each front between 0 and the cells; NONE: for ever.
     * As no post changes, an order moves the front by the same each week: one that does not lose
     * ground puts it off for ever, and if all lose, no front lasts even 40 weeks.
     */
    private void fillDelays(int ours) {
        boolean holds = false;
        for (int order = 0; order < ORDERS; order++) {
            holds = holds || army.move(ours, army.theirs, order) >= 0;
        }
        put(row, 0, 0);
        for (int front = 1; front <= army.cells; front++) {
            int most = 0;
            for (int order = 0; order < ORDERS && !holds; order++) {
                int next = army.after(front, army.move(ours, army.theirs, order));
                most = Math.max(most, at(row, next) + 1);
            }
            put(row, front, holds || front == army.cells ? NONE : most);
        }
    }

    /** The first order that puts the defeat off as long as the row of delays says. */
    private int firstDelaying(int ours) {
        int most = at(row, now.front);
        for (int order = 0; order < ORDERS; order++) {
            int delay = at(row, army.after(now.front, army.move(ours, army.theirs, order)));
            if (most == NONE ? delay == NONE : delay + 1 == most) {
                return order;
            }
        }
        return NONE;
    }

    /** Bits of the orders (1 hold, 2 push) than which the other goes no further. */
    private static int bestOf(int hold, int push) {
        return (hold >= push ? 1 : 0) | (push >= hold ? 2 : 0);
    }

    private static boolean within(int value, int least, int most) {
        return value >= least && value <= most;
    }

    private static int clamp(int value, int least, int most) {
        return Math.max(least, Math.min(most, value));
    }

    /** Reads an element; the index is looked at here, so that no reading can ever throw. */
    private static int at(int[] row, int i) {
        return i >= 0 && i < row.length ? row[i] : 0;
    }

    /** Writes an element; the index is looked at here, so that no writing can ever throw. */
    private static void put(int[] row, int i, int value) {
        if (i >= 0 && i < row.length) {
            row[i] = value;
        }
    }

    /** The words of the language, by what they are for, and which of these they are. */
    private enum Word {
        POST("post", KEPT, 0), MAN("man", KEPT, 0), WEIGHS("weighs", KEPT, 0), UNDER("under", KEPT, 0),
        BRAVE("brave", KEPT, 0), WIT("wit", KEPT, 0), COINS("coins", KEPT, 0), AT("at", KEPT, 0),
        NOT("not", KEPT, 0), AND("and", KEPT, 0), OR("or", KEPT, 0),
        SKILL("skill", ONCE, 0), WORTH("worth", ONCE, 1), GOES("goes", ONCE, 2), FRONT("front", ONCE, 3),
        THEIRS("theirs", ONCE, 4), QUARTER("quarter", ONCE, 5), HEED("heed", ONCE, 6),
        DRAW("draw", WAR_LINE, 0), SELL("sell", WAR_LINE, 1), ORDER("order", WAR_LINE, 2),
        WEEKS("weeks", WAR_LINE, 3),
        HOLD("hold", AN_ORDER, 0), PUSH("push", AN_ORDER, 1), YIELD("yield", AN_ORDER, 2),
        FOOT("foot", A_KIND, 0), HORSE("horse", A_KIND, 1), MULE("mule", A_KIND, 2), FOE("foe", A_KIND, 3),
        COURAGE("courage", FACT_OF_MEN, 0), SENSE("sense", FACT_OF_MEN, 1), LOAD("load", FACT_OF_MEN, 2),
        KIND("kind", FACT_OF_MEN, 3),
        OURS("ours", FACT_OF_FRONT, 0), AGAINST("against", FACT_OF_FRONT, 1), WHAT("what", FACT_OF_FRONT, 2);

        final long code;
        final int use;
        final int which;

        Word(String text, int use, int which) {
            long letters = 0;
            for (int i = 0; i < text.length(); i++) {
                letters = letters * 27 + (text.charAt(i) - 'a' + 1);
            }
            this.code = letters;
            this.use = use;
            this.which = which;
        }
    }

    /** The TAPE, and the token at which its reader stands. */
    private static final class Tape {
        static final int END = 0;
        static final int WORD = 1;
        static final int NUMBER = 2;
        static final int SIGN = 3;
        private static final int BLANK = 4;
        private static final int NO_TOKEN = 5;

        private static final int MOST_LETTERS = 8;
        private static final int MOST_DIGITS = 4;

        private final char[] signs = new char[TAPE_SIGNS];
        int many;
        int type;
        Word word;
        /** A word's letters, by 27, so that words are alike if their codes are; or a number. */
        long code;
        int taken;
        private char sign;
        private int place;
        private int next;
        private int fault;

        void addEight(long bytes) {
            for (int shift = 56; shift >= 0; shift -= 8) {
                int added = (int) (bytes >> shift & 255);
                if ((added == 10 || added >= 32 && added <= 126) && many >= 0 && many < signs.length) {
                    signs[many] = (char) added;
                    many++;
                }
            }
        }

        void startReading() {
            next = 0;
            fault = 0;
            step();
        }

        /** What was read is taken off; its FAULT, 0 without one. */
        int endReading() {
            many = 0;
            return fault;
        }

        /** On to the next token. */
        void step() {
            int end = next;
            while (end < many && typeOf(signAt(end)) == BLANK) {
                end++;
            }
            place = end;
            sign = signAt(end);
            type = end < many ? typeOf(sign) : END;
            word = null;
            code = 0;
            next = end + 1;
            if (type != WORD && type != NUMBER) {
                return;
            }
            int base = type == WORD ? 27 : 10;
            int zero = type == WORD ? 'a' - 1 : '0';
            while (end < many && typeOf(signAt(end)) == type) {
                code = code * base + (signAt(end) - zero);
                end++;
            }
            next = end;
            if (end - place > (type == WORD ? MOST_LETTERS : MOST_DIGITS)) {
                type = NO_TOKEN;
            } else if (type == WORD) {
                word = wordOf(code);
            }
        }

        private char signAt(int i) {
            return i >= 0 && i < many && i < signs.length ? signs[i] : 0;
        }

        /** What a sign is, or what it may begin. */
        private static int typeOf(char sign) {
            if (sign >= 'a' && sign <= 'z') {
                return WORD;
            }
            if (sign >= '0' && sign <= '9') {
                return NUMBER;
            }
            if (sign == ' ' || sign == 10) {
                return BLANK;
            }
            boolean isOne = sign == '(' || sign == ')' || sign == '<' || sign == '='
                    || sign == '+' || sign == '-' || sign == '*' || sign == ';';
            return isOne ? SIGN : NO_TOKEN;
        }

        private static Word wordOf(long code) {
            for (int i = 0; i < WORDS.length; i++) {
                if (WORDS[i].code == code) {
                    return WORDS[i];
                }
            }
            return null;
        }

        boolean isSign(char wanted) {
            return type == SIGN && sign == wanted;
        }

        boolean isName() {
            return type == WORD && (word == null || word.use == FACT_OF_MEN || word.use == FACT_OF_FRONT);
        }

        /** Which one of the words for a use stands here; NONE: no such word. */
        int which(int use) {
            return word != null && word.use == use ? word.which : NONE;
        }

        /** Lays down the FAULT of this token; always false, for its callers to hand on. */
        boolean wrong(int kind) {
            fault = kind + 16 * place;
            return false;
        }

        boolean takeSign(char wanted) {
            if (!isSign(wanted)) {
                return wrong(STANDS_WRONG);
            }
            step();
            return true;
        }

        boolean takeWord(Word wanted) {
            if (word != wanted) {
                return wrong(STANDS_WRONG);
            }
            step();
            return true;
        }

        boolean takeWhich(int use) {
            taken = which(use);
            if (taken == NONE) {
                return wrong(STANDS_WRONG);
            }
            step();
            return true;
        }

        boolean takeNumber(int least, int most) {
            if (type != NUMBER) {
                return wrong(STANDS_WRONG);
            }
            taken = (int) code;
            if (!within(taken, least, most)) {
                return wrong(BAD_NUMBER);
            }
            step();
            return true;
        }
    }

    /** The laws of an ARMY, each as a row of steps over a pile of ints. */
    private static final class Laws {
        static final int SKILL = 0;
        static final int WORTH = 1;
        static final int GOES = 2;
        static final int LAWS = 3;

        private static final int ADD = -1;
        private static final int SUBTRACT = -2;
        private static final int MULTIPLY = -3;
        private static final int LESS = -4;
        private static final int SAME = -5;
        private static final int NOT = -6;
        private static final int AND = -7;
        private static final int OR = -8;
        private static final int FACT = -16;
        private static final int PILE = 32;

        private final int[] steps = new int[TAPE_SIGNS];
        private final int[] begins = new int[LAWS];
        private final int[] ends = new int[LAWS];
        private final int[] pile = new int[PILE];
        private final int[] facts = new int[4];
        private int used;

        void clear() {
            used = 0;
            for (int law = 0; law < LAWS; law++) {
                put(begins, law, 0);
                put(ends, law, 0);
            }
        }

        boolean isTold(int law) {
            return at(ends, law) > at(begins, law);
        }

        boolean readLaw(Tape tape, int law) {
            put(begins, law, used);
            boolean good = readTests(tape, law, 0);
            put(ends, law, used);
            return good;
        }

        private void add(int step) {
            put(steps, used, step);
            used++;
        }

        private boolean readTests(Tape tape, int law, int depth) {
            boolean good = readTest(tape, law, depth);
            for (int left = TAPE_SIGNS; left > 0 && good; left--) {
                int step = tape.word == Word.AND ? AND : OR;
                if (tape.word != Word.AND && tape.word != Word.OR) {
                    return true;
                }
                tape.step();
                good = readTest(tape, law, depth);
                add(step);
            }
            return good;
        }

        private boolean readTest(Tape tape, int law, int depth) {
            if (!readSum(tape, law, depth)) {
                return false;
            }
            if (!tape.isSign('<') && !tape.isSign('=')) {
                return true;
            }
            int step = tape.isSign('<') ? LESS : SAME;
            tape.step();
            boolean good = readSum(tape, law, depth);
            add(step);
            return good;
        }

        private boolean readSum(Tape tape, int law, int depth) {
            boolean good = readProduct(tape, law, depth);
            for (int left = TAPE_SIGNS; left > 0 && good; left--) {
                int step = tape.isSign('+') ? ADD : SUBTRACT;
                if (!tape.isSign('+') && !tape.isSign('-')) {
                    return true;
                }
                tape.step();
                good = readProduct(tape, law, depth);
                add(step);
            }
            return good;
        }

        private boolean readProduct(Tape tape, int law, int depth) {
            boolean good = readPart(tape, law, depth);
            for (int left = TAPE_SIGNS; left > 0 && good && tape.isSign('*'); left--) {
                tape.step();
                good = readPart(tape, law, depth);
                add(MULTIPLY);
            }
            return good;
        }

        private boolean readPart(Tape tape, int law, int depth) {
            int fact = tape.which(law == GOES ? FACT_OF_FRONT : FACT_OF_MEN);
            boolean isPlain = tape.type == Tape.NUMBER || fact != NONE;
            boolean isNot = tape.word == Word.NOT;
            if (!isPlain && !isNot && !tape.isSign('(')) {
                return tape.wrong(STANDS_WRONG);
            }
            if (depth >= MOST_WITHIN) {
                return tape.wrong(TOO_MANY);
            }
            if (isPlain) {
                add(fact != NONE ? FACT - fact : (int) tape.code);
                tape.step();
                return true;
            }
            tape.step();
            if (isNot) {
                boolean good = readPart(tape, law, depth + 1);
                add(NOT);
                return good;
            }
            return readTests(tape, law, depth + 1) && tape.takeSign(')');
        }

        /** A law over its facts, in the order of their words. */
        int value(int law, int fact, int second, int third, int fourth) {
            put(facts, 0, fact);
            put(facts, 1, second);
            put(facts, 2, third);
            put(facts, 3, fourth);
            int top = -1;
            for (int i = at(begins, law); i < at(ends, law); i++) {
                int step = at(steps, i);
                if (step >= 0 || step <= FACT) {
                    top++;
                    put(pile, top, step >= 0 ? step : at(facts, FACT - step));
                } else if (step == NOT) {
                    put(pile, top, at(pile, top) == 0 ? 1 : 0);
                } else {
                    top--;
                    put(pile, top, joined(step, at(pile, top), at(pile, top + 1)));
                }
            }
            return at(pile, 0);
        }

        private static int joined(int step, int left, int right) {
            switch (step) {
                case ADD:
                    return left + right;
                case SUBTRACT:
                    return left - right;
                case MULTIPLY:
                    return left * right;
                case LESS:
                    return left < right ? 1 : 0;
                case SAME:
                    return left == right ? 1 : 0;
                case AND:
                    return left != 0 && right != 0 ? 1 : 0;
                default:
                    return left != 0 || right != 0 ? 1 : 0;
            }
        }
    }

    /** An ARMY as told, and what follows from its laws. */
    private static final class Army {
        int posts;
        int men;
        int cells = 10;
        int start = 5;
        int theirs = 20;
        int quarter = 13;
        int heed = 3;
        final int[] kind = new int[MOST];
        final int[] weighs = new int[MOST];
        final int[] under = new int[MOST];
        final int[] brave = new int[MOST];
        final int[] wit = new int[MOST];
        final int[] coins = new int[MOST];
        private final long[] postNames = new long[MOST];
        private final long[] manNames = new long[MOST];
        private final int[] skills = new int[MOST * MOST];
        private final int[] likings = new int[MOST * MOST];
        private final Laws laws = new Laws();
        private int linesTold;

        private void clear() {
            posts = 0;
            men = 0;
            cells = 10;
            start = 5;
            theirs = 20;
            quarter = 13;
            heed = 3;
            linesTold = 0;
            laws.clear();
        }

        int readFrom(Tape tape) {
            clear();
            tape.startReading();
            boolean good = true;
            for (int left = TAPE_SIGNS; left > 0 && good && tape.type != Tape.END; left--) {
                good = readLine(tape);
            }
            fillTables();
            return tape.endReading();
        }

        private boolean readLine(Tape tape) {
            if (tape.word == Word.POST) {
                return readPost(tape) && tape.takeSign(';');
            }
            if (tape.word == Word.MAN) {
                return readMan(tape) && tape.takeSign(';');
            }
            Word word = tape.word;
            int line = tape.which(ONCE);
            if (line == NONE) {
                return tape.wrong(STANDS_WRONG);
            }
            if ((linesTold >> line & 1) == 1) {
                return tape.wrong(TOLD_TWICE);
            }
            linesTold |= 1 << line;
            tape.step();
            boolean good = line < Laws.LAWS ? laws.readLaw(tape, line) : readOnce(tape, word);
            return good && tape.takeSign(';');
        }

        private boolean readOnce(Tape tape, Word word) {
            if (word == Word.FRONT) {
                return readFront(tape);
            }
            int least = word == Word.QUARTER ? 1 : 0;
            int most = word == Word.QUARTER ? MOST_WEEKS : word == Word.HEED ? MOST_SKILL : MOST_STRENGTH;
            if (!tape.takeNumber(least, most)) {
                return false;
            }
            if (word == Word.QUARTER) {
                quarter = tape.taken;
            } else if (word == Word.HEED) {
                heed = tape.taken;
            } else {
                theirs = tape.taken;
            }
            return true;
        }

        private boolean readFront(Tape tape) {
            if (!tape.takeNumber(4, MOST_CELLS)) {
                return false;
            }
            cells = tape.taken;
            if (!tape.takeWord(Word.AT) || !tape.takeNumber(1, cells - 1)) {
                return false;
            }
            start = tape.taken;
            return true;
        }

        private boolean readPost(Tape tape) {
            if (posts < 0 || posts >= MOST) {
                return tape.wrong(TOO_MANY);
            }
            tape.step();
            long name = tape.code;
            if (!takeNewName(tape) || !tape.takeWhich(A_KIND)) {
                return false;
            }
            put(kind, posts, tape.taken);
            if (!tape.takeWord(Word.WEIGHS) || !tape.takeNumber(1, MOST_WEIGHT)) {
                return false;
            }
            put(weighs, posts, tape.taken);
            put(under, posts, NONE);
            if (tape.word == Word.UNDER && !readUnder(tape)) {
                return false;
            }
            postNames[posts] = name;
            posts++;
            return true;
        }

        private boolean readUnder(Tape tape) {
            tape.step();
            if (!tape.isName()) {
                return tape.wrong(STANDS_WRONG);
            }
            int above = indexOf(postNames, posts, tape.code);
            if (above == NONE) {
                return tape.wrong(UNKNOWN);
            }
            put(under, posts, above);
            tape.step();
            return true;
        }

        private boolean readMan(Tape tape) {
            if (men < 0 || men >= MOST) {
                return tape.wrong(TOO_MANY);
            }
            tape.step();
            long name = tape.code;
            if (!takeNewName(tape) || !tape.takeWord(Word.BRAVE) || !tape.takeNumber(0, 9)) {
                return false;
            }
            put(brave, men, tape.taken);
            if (!tape.takeWord(Word.WIT) || !tape.takeNumber(0, 9)) {
                return false;
            }
            put(wit, men, tape.taken);
            if (!tape.takeWord(Word.COINS) || !tape.takeNumber(0, MOST_COINS)) {
                return false;
            }
            put(coins, men, tape.taken);
            manNames[men] = name;
            men++;
            return true;
        }

        private boolean takeNewName(Tape tape) {
            if (!tape.isName()) {
                return tape.wrong(STANDS_WRONG);
            }
            if (indexOf(postNames, posts, tape.code) != NONE || manNamed(tape.code) != NONE) {
                return tape.wrong(TOLD_TWICE);
            }
            tape.step();
            return true;
        }

        int manNamed(long name) {
            return indexOf(manNames, men, name);
        }

        private static int indexOf(long[] names, int many, long name) {
            for (int i = 0; i < many && i < names.length; i++) {
                if (names[i] == name) {
                    return i;
                }
            }
            return NONE;
        }

        private void fillTables() {
            for (int man = 0; man < men; man++) {
                for (int post = 0; post < posts; post++) {
                    put(skills, man * MOST + post, lawOfSkill(man, post));
                    put(likings, man * MOST + post, lawOfWorth(man, post));
                }
            }
        }

        private int lawOfSkill(int man, int post) {
            if (laws.isTold(Laws.SKILL)) {
                return clamp(lawOf(Laws.SKILL, man, post), 0, MOST_SKILL);
            }
            return at(kind, post) == HORSE ? at(wit, man) : at(brave, man);
        }

        private int lawOfWorth(int man, int post) {
            return laws.isTold(Laws.WORTH) ? lawOf(Laws.WORTH, man, post) : at(weighs, post);
        }

        private int lawOf(int law, int man, int post) {
            return laws.value(law, at(brave, man), at(wit, man), at(weighs, post), at(kind, post));
        }

        boolean hasPost(int post) {
            return post >= 0 && post < posts;
        }

        boolean hasMan(int man) {
            return man >= 0 && man < men;
        }

        int skillOf(int man, int post) {
            return hasMan(man) && hasPost(post) ? at(skills, man * MOST + post) : 0;
        }

        int likingOf(int man, int post) {
            return hasMan(man) && hasPost(post) ? at(likings, man * MOST + post) : 0;
        }

        int forceOf(int man, int post) {
            return skillOf(man, post) * at(weighs, post);
        }

        /** Bits of the POSTS that OBEY; none is under one told behind it, so one round is enough. */
        int obeying(int[] manOf) {
            int bits = 0;
            for (int post = 0; post < posts; post++) {
                int above = at(under, post);
                boolean isLed = above == NONE
                        || (bits >> above & 1) == 1 && skillOf(at(manOf, above), above) >= heed;
                if (isLed && at(manOf, post) != NONE) {
                    bits |= 1 << post;
                }
            }
            return bits;
        }

        int strength(int[] manOf) {
            int obeying = obeying(manOf);
            int sum = 0;
            for (int post = 0; post < posts; post++) {
                if ((obeying >> post & 1) == 1) {
                    int force = forceOf(at(manOf, post), post);
                    int type = at(kind, post);
                    sum += type == MULE ? force / 2 : type == FOE ? -force : force;
                }
            }
            return Math.max(0, sum);
        }

        /** By how much the front goes in a week. */
        int move(int ours, int against, int order) {
            if (laws.isTold(Laws.GOES)) {
                return clamp(laws.value(Laws.GOES, ours, against, order, 0), -3, 3);
            }
            if (order == YIELD) {
                return -1;
            }
            if (order == PUSH) {
                return Integer.compare(ours, against);
            }
            return 2 * ours < against ? -1 : 0;
        }

        /** Where a front is a week later; at either end it stays. */
        int after(int front, int move) {
            return front <= 0 || front >= cells ? front : clamp(front + move, 0, cells);
        }
    }

    /** A WAR as told: lines of a kind with up to three numbers. */
    private static final class War {
        private static final int DRAW = 0;
        private static final int SELL = 1;
        private static final int ORDER = 2;

        int many;
        private final int[] kind = new int[MOST_LINES];
        private final int[] first = new int[MOST_LINES];
        private final int[] second = new int[MOST_LINES];
        private final int[] third = new int[MOST_LINES];

        int readFrom(Tape tape, Army army) {
            many = 0;
            tape.startReading();
            boolean good = true;
            for (int left = TAPE_SIGNS; left > 0 && good && tape.type != Tape.END; left--) {
                good = readLine(tape, army);
            }
            return tape.endReading();
        }

        private boolean readLine(Tape tape, Army army) {
            int type = tape.which(WAR_LINE);
            if (type == NONE) {
                return tape.wrong(STANDS_WRONG);
            }
            if (many >= MOST_LINES) {
                return tape.wrong(TOO_MANY);
            }
            put(kind, many, type);
            tape.step();
            if (!readRest(tape, army, type)) {
                return false;
            }
            many++;
            return tape.takeSign(';');
        }

        private boolean readRest(Tape tape, Army army, int type) {
            if (type == SELL) {
                return readSell(tape, army);
            }
            boolean good;
            if (type == DRAW) {
                good = tape.takeNumber(0, MOST_SEED);
            } else if (type == ORDER) {
                good = tape.takeWhich(AN_ORDER);
            } else {
                good = tape.takeNumber(1, MOST_WEEKS);
            }
            put(first, many, tape.taken);
            return good;
        }

        private boolean readSell(Tape tape, Army army) {
            if (!takeMan(tape, army, NONE)) {
                return false;
            }
            int seller = tape.taken;
            put(first, many, seller);
            if (!takeMan(tape, army, seller)) {
                return false;
            }
            put(second, many, tape.taken);
            boolean good = tape.takeNumber(0, MOST_COINS);
            put(third, many, tape.taken);
            return good;
        }

        private static boolean takeMan(Tape tape, Army army, int another) {
            if (!tape.isName()) {
                return tape.wrong(STANDS_WRONG);
            }
            int man = army.manNamed(tape.code);
            if (man == NONE) {
                return tape.wrong(UNKNOWN);
            }
            if (man == another) {
                return tape.wrong(TOLD_TWICE);
            }
            tape.taken = man;
            tape.step();
            return true;
        }

        /** Runs the lines on a state, leaving out what can't be: the first such line, or NONE. */
        int runOn(Army army, State state, Raffle raffle) {
            int bad = NONE;
            for (int line = 0; line < many; line++) {
                if (!runLine(line, army, state, raffle) && bad == NONE) {
                    bad = line;
                }
            }
            return bad;
        }

        private boolean runLine(int line, Army army, State state, Raffle raffle) {
            int type = at(kind, line);
            int value = at(first, line);
            if (type == DRAW) {
                raffle.sow(value);
                raffle.deal(army, state);
                return true;
            }
            if (type == SELL) {
                boolean can = state.canTrade(army, value, at(second, line), at(third, line));
                if (can) {
                    state.trade(value, at(second, line), at(third, line));
                }
                return can;
            }
            if (type == ORDER) {
                boolean can = state.canCommand(value);
                if (can) {
                    state.order = value;
                }
                return can;
            }
            return state.pass(army, value) == value;
        }
    }

    /** How a war stands: who has what, coins, the order, the front, the week. */
    private static final class State {
        final int[] manOf = new int[MOST];
        final int[] coins = new int[MOST];
        int order;
        int front;
        int week;
        boolean over;

        void begin(Army army) {
            for (int i = 0; i < MOST; i++) {
                put(manOf, i, i < army.posts && i < army.men ? i : NONE);
                put(coins, i, i < army.men ? at(army.coins, i) : 0);
            }
            order = HOLD;
            front = army.start;
            week = 0;
            over = false;
        }

        void copyFrom(State other) {
            for (int i = 0; i < MOST; i++) {
                put(manOf, i, at(other.manOf, i));
                put(coins, i, at(other.coins, i));
            }
            order = other.order;
            front = other.front;
            week = other.week;
            over = other.over;
        }

        int postOf(int man) {
            for (int post = 0; post < MOST; post++) {
                if (at(manOf, post) == man) {
                    return post;
                }
            }
            return NONE;
        }

        int coinsOfAll(Army army) {
            int sum = 0;
            for (int man = 0; man < army.men; man++) {
                sum += at(coins, man);
            }
            return sum;
        }

        boolean canTrade(Army army, int seller, int buyer, int price) {
            return army.hasMan(seller) && army.hasMan(buyer) && seller != buyer
                    && within(price, 0, MOST_COINS)
                    && postOf(seller) != NONE && at(coins, buyer) >= price;
        }

        void trade(int seller, int buyer, int price) {
            int sold = postOf(seller);
            int other = postOf(buyer);
            put(manOf, sold, buyer);
            put(manOf, other, seller);
            put(coins, seller, at(coins, seller) + price);
            put(coins, buyer, at(coins, buyer) - price);
        }

        boolean canCommand(int wanted) {
            return within(wanted, HOLD, YIELD) && wanted != order;
        }

        boolean canPass(Army army) {
            return front > 0 && front < army.cells && !over;
        }

        /** As many of these weeks as can be: how many passed. */
        int pass(Army army, int many) {
            int move = army.move(army.strength(manOf), army.theirs, order);
            int passed = 0;
            while (passed < many && canPass(army)) {
                front = army.after(front, move);
                week++;
                passed++;
                over = army.quarter > 0 && week % army.quarter == 0;
            }
            return passed;
        }
    }

    /** What is SEEN of the front and TOLD of tickets. */
    private static final class Notes {
        final int[] seen = new int[MOST_SEEN];
        final int[] toldMan = new int[MOST_TOLD];
        final int[] toldPost = new int[MOST_TOLD];
        int seenMany;
        int toldMany;

        void forget() {
            seenMany = 0;
            toldMany = 0;
        }

        void copyFrom(Notes other) {
            for (int i = 0; i < MOST_SEEN; i++) {
                put(seen, i, at(other.seen, i));
            }
            for (int i = 0; i < MOST_TOLD; i++) {
                put(toldMan, i, at(other.toldMan, i));
                put(toldPost, i, at(other.toldPost, i));
            }
            seenMany = other.seenMany;
            toldMany = other.toldMany;
        }

        int ticketsOf(int man) {
            int tickets = 0;
            for (int i = 0; i < toldMany; i++) {
                if (at(toldMan, i) == man) {
                    tickets++;
                }
            }
            return tickets;
        }
    }

    /** The source of DRAWS, and the quarter day's deal. */
    private static final class Raffle {
        private long g;
        private final int[] standing = new int[MOST];

        void sow(int seed) {
            g = seed;
        }

        int below(int many) {
            g = (g * 1103515245L + 12345L) % 2147483648L;
            return many > 0 ? (int) (g / 65536L % many) : 0;
        }

        void deal(Army army, State state) {
            for (int man = 0; man < army.men; man++) {
                put(standing, man, man);
            }
            for (int last = army.men - 1; last > 0; last--) {
                int other = below(last + 1);
                int moved = at(standing, last);
                put(standing, last, at(standing, other));
                put(standing, other, moved);
            }
            for (int post = 0; post < MOST; post++) {
                boolean held = post < army.posts && post < army.men;
                put(state.manOf, post, held ? at(standing, post) : NONE);
            }
            state.over = false;
        }
    }

    /** All ways to give POSTS to MEN, gone through once for an ARMY, and what they come to. */
    private static final class Ways {
        /** A front goes by -3 to 3, so what three orders do to it is one of 7 * 7 * 7. */
        private static final int MOVES = 7;
        private static final int TRIPLES = 343;

        boolean known;
        int most;
        long sum;
        final int[] mostBy = new int[MOST];
        final int[] planned = new int[MOST_PLANNED];
        private int many;
        private int triplesMany;
        private final int[] manOf = new int[MOST];
        private final int[] triples = new int[TRIPLES];
        private final int[] waysOf = new int[TRIPLES];
        private final int[] tried = new int[MOST_PLANNED];

        void learn(Army army) {
            if (known) {
                return;
            }
            most = NONE;
            sum = 0;
            many = 0;
            triplesMany = 0;
            for (int i = 0; i < TRIPLES; i++) {
                put(waysOf, i, 0);
            }
            place(army, 0, 0, army.posts - army.men);
            known = true;
        }

        /** MEN in order and none behind all: so the first way comes first. */
        private void place(Army army, int post, int taken, int empty) {
            if (post >= army.posts || post >= MOST) {
                settle(army);
                return;
            }
            for (int man = 0; man < army.men; man++) {
                if ((taken >> man & 1) == 0) {
                    put(manOf, post, man);
                    place(army, post + 1, taken | 1 << man, empty);
                }
            }
            if (empty > 0) {
                put(manOf, post, NONE);
                place(army, post + 1, taken, empty - 1);
            }
        }

        private void settle(Army army) {
            int ours = army.strength(manOf);
            many++;
            sum += ours;
            if (ours > most) {
                most = ours;
                for (int post = 0; post < MOST; post++) {
                    put(mostBy, post, at(manOf, post));
                }
            }
            int triple = 0;
            for (int order = 0; order < ORDERS; order++) {
                triple = triple * MOVES + army.move(ours, army.theirs, order) + 3;
            }
            if (at(waysOf, triple) == 0) {
                put(triples, triplesMany, triple);
                triplesMany++;
            }
            put(waysOf, triple, at(waysOf, triple) + 1);
        }

        int thousandths(long total) {
            return many > 0 ? (int) (total * 1000 / many) : 0;
        }

        /** The greatest sum, over all ways, of where a row of orders brings the front. */
        long furthest(Army army, int front, int weeks) {
            int rows = (int) power(ORDERS, weeks);
            long greatest = NONE;
            for (int code = 0; code < rows; code++) {
                spell(code, weeks);
                long reached = reached(army, front, weeks);
                if (reached > greatest) {
                    greatest = reached;
                    for (int week = 0; week < weeks; week++) {
                        put(planned, week, at(tried, week));
                    }
                }
            }
            return greatest;
        }

        private void spell(int code, int weeks) {
            int left = code;
            for (int week = weeks - 1; week >= 0; week--) {
                put(tried, week, left % ORDERS);
                left /= ORDERS;
            }
        }

        private long reached(Army army, int front, int weeks) {
            long total = 0;
            for (int i = 0; i < triplesMany; i++) {
                int triple = at(triples, i);
                int last = front;
                for (int week = 0; week < weeks; week++) {
                    last = army.after(last, moveBy(triple, at(tried, week)));
                }
                total += (long) last * at(waysOf, triple);
            }
            return total;
        }

        private static int moveBy(int triple, int order) {
            int moves = order == HOLD ? triple / (MOVES * MOVES) : order == PUSH ? triple / MOVES : triple;
            return moves % MOVES - 3;
        }
    }

    /** SWAPS and POOLS of the MEN who have POSTS. */
    private static final class Trade {
        final int[] gets = new int[MOST];
        private final int[] traders = new int[MOST];
        private final int[] brought = new int[MOST];
        private final int[] filled = new int[1 << MOST];
        private final int[] pools = new int[1 << MOST];

        /** Who has which POST when every ring of looks has left. */
        void swapAll(Army army, State state) {
            int there = 0;
            for (int man = 0; man < army.men; man++) {
                put(gets, man, NONE);
                if (state.postOf(man) != NONE) {
                    there |= 1 << man;
                }
            }
            for (int man = 0; man < army.men; man++) {
                for (int left = MOST; left > 0 && (there >> man & 1) == 1; left--) {
                    there = swapRing(army, state, man, there);
                }
            }
        }

        /** Lets the ring go to which a MAN's looks lead: who is still there behind it. */
        private int swapRing(Army army, State state, int man, int there) {
            int member = man;
            for (int i = 0; i < MOST; i++) {
                member = at(state.manOf, likedBest(army, state, member, there));
            }
            int left = there;
            for (int i = 0; i < MOST && (left >> member & 1) == 1; i++) {
                int liked = likedBest(army, state, member, there);
                put(gets, member, liked);
                left &= ~(1 << member);
                member = at(state.manOf, liked);
            }
            return left;
        }

        private static int likedBest(Army army, State state, int man, int there) {
            int liked = NONE;
            for (int post = 0; post < army.posts; post++) {
                int holder = at(state.manOf, post);
                boolean isThere = holder != NONE && (there >> holder & 1) == 1;
                if (isThere && (liked == NONE || army.likingOf(man, post) > army.likingOf(man, liked))) {
                    liked = post;
                }
            }
            return liked;
        }

        /** The POOL of some MEN: the best for each set of their POSTS, filled by the first of them. */
        int worthOf(Army army, State state, int men) {
            int many = 0;
            for (int man = 0; man < army.men; man++) {
                if ((men >> man & 1) == 1) {
                    put(traders, many, man);
                    put(brought, many, state.postOf(man));
                    many++;
                }
            }
            put(filled, 0, 0);
            for (int set = 1; set < 1 << many; set++) {
                int man = at(traders, Integer.bitCount(set) - 1);
                int best = 0;
                for (int i = 0; i < many; i++) {
                    if ((set >> i & 1) == 1) {
                        int sum = at(filled, set ^ 1 << i) + army.forceOf(man, at(brought, i));
                        best = Math.max(best, sum);
                    }
                }
                put(filled, set, best);
            }
            return at(filled, (1 << many) - 1);
        }

        /** A set of others stands ahead of a MAN in as many orders as its own and the rest's rows. */
        int shareOf(Army army, State state, int men, int man) {
            for (int set = 0; set < 1 << MOST; set++) {
                put(pools, set, (set & ~men) == 0 ? worthOf(army, state, set) : 0);
            }
            int many = Integer.bitCount(men);
            long sum = 0;
            for (int set = 0; set < 1 << MOST; set++) {
                boolean isAhead = (set & ~men) == 0 && (set >> man & 1) == 0;
                if (isAhead) {
                    int ahead = Integer.bitCount(set);
                    int added = at(pools, set | 1 << man) - at(pools, set);
                    sum += added * rowsOf(ahead) * rowsOf(many - 1 - ahead);
                }
            }
            long rows = rowsOf(many);
            return rows > 0 ? (int) (sum * 1000 / rows) : 0;
        }

        private static long rowsOf(int many) {
            long rows = 1;
            for (int i = 2; i <= many; i++) {
                rows *= i;
            }
            return rows;
        }
    }
}
