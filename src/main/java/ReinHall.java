/**
 * Reins: a world of states and doings with lots, told by a text; what in it can be kept safe, and
 * machines that act in it by leaves, under masters whose budgets stand over one another.
 *
 * <p>Every row is made in a constructor and used again: no call makes an object or an array.
 */
public final class ReinHall {
    public static final int BAD = -1, STATE = -2, FULL = -3, NONE = -9;

    private static final int STATES = 16, DOINGS = 8, LOTS = 4, WAYS = 60, BARS = 10;
    private static final int ALL_STATES = 0xFFFF, ALL_DOINGS = 0xFF;
    private static final int TEXT_ROOM = 600, ROW_ROOM = 16;
    private static final int MASTERS = 8, MACHINES = 4, LEAVES = 20, LINES = 60;
    private static final int MOST_PRICE = 20, MOST_LIMIT = 1000, MOST_USES = 20, MOST_TILL = 100;
    private static final int MOST_YES = 9, MOST_WAIT = 50, LAST_WAIT = 100, MOST_DEALT = 30;
    /** Faults and refusals are told as so much less than this. */
    private static final int REFUSED = -10;

    private static final int GOAL_SET = 1, REST_SET = 2;
    private static final int PRICE = 0, KIND = 1;

    private final Text text = new Text();
    private final Reader reader = new Reader();
    private World land = new World();
    private World spareLand = new World();
    private final Book book = new Book();
    private final Book firstImage = new Book();
    private final Book secondImage = new Book();
    private final int[] prices = new int[DOINGS];
    private final int[] kinds = new int[DOINGS];
    private final int[] wishes = new int[MASTERS];
    private long marks;

    public ReinHall() {
        for (int d = 0; d < DOINGS; d++) {
            prices[d] = 1;
        }
        land.rest = ALL_STATES;
        land.settle();
        land.rounds.find(land);
        book.addMaster(NONE, MOST_LIMIT);
    }

    // ---- the world

    public int type(long v, int n) {
        if (!within(n, 1, 8)) {
            return BAD;
        }
        if (text.length + n > TEXT_ROOM) {
            return FULL;
        }
        for (int i = n - 1; i >= 0; i--) {
            text.append((int) (v >>> (8 * i)) & 0xFF);
        }
        return text.length;
    }

    public int clear() {
        int had = text.length;
        text.length = 0;
        return had;
    }

    public int world() {
        int fault = reader.readInto(spareLand, text);
        if (fault >= 0) {
            return REFUSED - fault;
        }
        World told = spareLand;
        spareLand = land;
        land = told;
        land.settle();
        land.rounds.find(land);
        text.length = 0;
        return land.ways;
    }

    public int set(int what) {
        switch (what) {
            case 0: return land.never;
            case 1: return land.goal;
            case 2: return land.rest;
            case 3: return land.broken;
            case 4: return land.safe;
            default: return BAD;
        }
    }

    public int lot(int state, int doing, int i) {
        if (!isState(state) || !isDoing(doing) || !within(i, -1, land.lotsIn(state, doing) - 1)) {
            return BAD;
        }
        return i < 0 ? land.lotsIn(state, doing) : land.lotAt(state, doing, i);
    }

    public int let(int state) {
        return isState(state) ? land.letIn(state) : BAD;
    }

    public int doom(int state) {
        return isState(state) ? land.doomOf(state) : BAD;
    }

    public int sure(int state, int set, int what) {
        if (!isState(state) || !within(set, GOAL_SET, REST_SET) || !within(what, 0, 1)) {
            return BAD;
        }
        return what == 0 ? land.sureOf(state, set) : land.firstDoing(state, set);
    }

    public int instead(int state, int doing) {
        return isState(state) && isDoing(doing) ? insteadOf(state, doing) : BAD;
    }

    // ---- doings, masters, machines

    public int doing(int d, int what, int v) {
        if (!isDoing(d) || !within(what, PRICE, KIND)) {
            return BAD;
        }
        if (!within(v, 0, what == PRICE ? MOST_PRICE : Kinds.LAST)) {
            return BAD;
        }
        int[] row = what == PRICE ? prices : kinds;
        int was = row[d];
        row[d] = v;
        return was;
    }

    public int due(int kind, int d) {
        if (!within(kind, Kinds.PLAIN, Kinds.LAST) || !isDoing(d)) {
            return BAD;
        }
        marks += Kinds.marksOf(kind);
        return Kinds.dueOf(kind, prices[d]);
    }

    public int master(int under, int limit) {
        if (!book.masters.has(under) || !within(limit, 0, MOST_LIMIT)) {
            return BAD;
        }
        int number = book.addMaster(under, limit);
        if (number < 0 || number >= MASTERS) {
            return FULL;
        }
        wishes[number] = 0;
        return number;
    }

    public int limit(int master, int v) {
        if (!book.masters.has(master) || !within(v, 0, MOST_LIMIT)) {
            return BAD;
        }
        if (v < book.masters.get(master, Book.SPENT)) {
            return STATE;
        }
        int was = book.masters.get(master, Book.LIMIT);
        book.masters.put(master, Book.LIMIT, v);
        return was;
    }

    public int machine(int master, int state) {
        if (!book.masters.has(master) || !isState(state)) {
            return BAD;
        }
        int number = book.addMachine(master, state);
        return number < 0 ? FULL : number;
    }

    public int give(int master, int machine, int doings, int uses, int till) {
        if (!book.masters.has(master) || !isLeave(machine, doings, uses, till)) {
            return BAD;
        }
        if (!book.isUnder(book.machines.get(machine, Book.MASTER), master)) {
            return STATE;
        }
        int number = book.addLeave(machine, doings, uses, till);
        if (number < 0) {
            return FULL;
        }
        book.leaves.put(number, Book.LENT_OF, NONE);
        book.leaves.put(number, Book.GIVER, master);
        return number;
    }

    public int lend(int leave, int machine, int doings, int uses, int till) {
        if (!book.leaves.has(leave) || !isLeave(machine, doings, uses, till)) {
            return BAD;
        }
        if (!book.stands(leave) || book.leaves.get(leave, Book.HOLDER) == machine
                || !book.covers(leave, doings, uses, till)) {
            return STATE;
        }
        int number = book.addLeave(machine, doings, uses, till);
        if (number < 0) {
            return FULL;
        }
        book.leaves.put(number, Book.LENT_OF, leave);
        book.leaves.put(number, Book.GIVER, book.leaves.get(leave, Book.GIVER));
        return number;
    }

    public int withdraw(int leave) {
        if (!book.leaves.has(leave)) {
            return BAD;
        }
        if (book.isWithdrawn(leave)) {
            return STATE;
        }
        return book.takeBack(leave);
    }

    public int leave(int i, int what) {
        if (!book.leaves.has(i) || !within(what, Book.HOLDER, Book.WITHDRAWN)) {
            return BAD;
        }
        if (what == Book.STANDS) {
            return book.stands(i) ? 1 : 0;
        }
        return book.leaves.get(i, what);
    }

    public int yes(int machine) {
        if (!book.machines.has(machine)) {
            return BAD;
        }
        if (book.machines.get(machine, Book.YES) >= MOST_YES) {
            return FULL;
        }
        book.machines.add(machine, Book.YES, 1);
        return book.machines.get(machine, Book.YES);
    }

    // ---- acts

    public int act(int machine, int doing, int lot, int guard) {
        if (!book.machines.has(machine) || !isDoing(doing) || !within(lot, 0, LOTS - 1)
                || !within(guard, 0, 1)) {
            return BAD;
        }
        int done = guard == 1 ? insteadOf(book.machines.get(machine, Book.AT), doing) : doing;
        int why = whyRefused(machine, done, lot);
        if (why != 0) {
            return REFUSED - why;
        }
        perform(machine, doing, done, lot);
        return done;
    }

    public int undo(int machine) {
        if (!book.machines.has(machine)) {
            return BAD;
        }
        int latest = book.latestLine(machine);
        if (latest < 0 || book.lines.get(latest, Book.UNDONE) != 0
                || kindOf(book.lines.get(latest, Book.DONE)) != Kinds.UNDOABLE) {
            return STATE;
        }
        book.undoLine(latest);
        return latest;
    }

    public int wait(int n) {
        if (!within(n, 1, MOST_WAIT)) {
            return BAD;
        }
        if (book.tick + n > LAST_WAIT) {
            return STATE;
        }
        book.tick += n;
        return book.tick;
    }

    public int line(int i, int what) {
        if (!book.lines.has(i) || !within(what, Book.TICK, Book.UNDONE)) {
            return BAD;
        }
        return book.lines.get(i, what);
    }

    public int led(int line, int k) {
        if (!book.lines.has(line)) {
            return BAD;
        }
        int leaves = book.chainLength(book.lines.get(line, Book.BY_LEAVE));
        if (!within(k, -1, leaves - 1)) {
            return BAD;
        }
        return k < 0 ? leaves : book.chainLeave(book.lines.get(line, Book.BY_LEAVE), k);
    }

    public int about(int machine, int what) {
        if (!book.machines.has(machine) || !within(what, Book.AT, Book.ACTS)) {
            return BAD;
        }
        return book.machines.get(machine, what);
    }

    public int budget(int master, int what) {
        if (!book.masters.has(master) || !within(what, Book.OVER, Book.SPENT)) {
            return BAD;
        }
        return book.masters.get(master, what);
    }

    // ---- watching

    public int round(int what) {
        switch (what) {
            case 0: return land.rounds.rows;
            case 1: return land.rounds.bar;
            case 2: return land.rounds.length;
            case 3: return land.rounds.first;
            default: return BAD;
        }
    }

    public long odd(int machine, int doing, int what) {
        if (!book.machines.has(machine) || !isDoing(doing) || !within(what, 0, 1)) {
            return BAD;
        }
        int all = book.lines.rows;
        if (all > MOST_DEALT) {
            return STATE;
        }
        int own = book.machines.get(machine, Book.ACTS);
        if (what == 1) {
            return choose(all, own);
        }
        return dealsOf(all, book.linesOf(NONE, doing), own, book.linesOf(machine, doing));
    }

    public int wish(int master, int states) {
        if (!book.masters.has(master) || !within(master, 0, MASTERS - 1)
                || !within(states, 0, ALL_STATES)) {
            return BAD;
        }
        int was = wishes[master];
        wishes[master] = states;
        return was;
    }

    public int wished(int state) {
        if (!isState(state)) {
            return BAD;
        }
        int best = NONE;
        for (int d = 0; d < DOINGS; d++) {
            if (land.isLet(state, d) && (best == NONE || isMoreWished(state, d, best))) {
                best = d;
            }
        }
        return best;
    }

    public int quarrel() {
        for (int a = 0; a < MASTERS; a++) {
            for (int b = a + 1; b < MASTERS; b++) {
                if (wishOf(a) != 0 && wishOf(b) != 0 && (wishOf(a) & wishOf(b)) == 0) {
                    return 8 * a + b;
                }
            }
        }
        return NONE;
    }

    public int beside(int machine) {
        if (!book.machines.has(machine)) {
            return BAD;
        }
        int at = book.machines.get(machine, Book.BEGAN);
        for (int i = 0; i < book.lines.rows && i < LINES; i++) {
            if (book.lines.get(i, Book.ACTOR) == machine && book.lines.get(i, Book.UNDONE) == 0) {
                at = land.ledTo(at, book.lines.get(i, Book.WANTED), book.lines.get(i, Book.LOT));
            }
        }
        return at;
    }

    public int keep(int image) {
        if (!within(image, 0, 1)) {
            return BAD;
        }
        Book kept = image == 0 ? firstImage : secondImage;
        kept.copyFrom(book);
        kept.isKept = true;
        return book.tick;
    }

    public int back(int image) {
        if (!within(image, 0, 1)) {
            return BAD;
        }
        Book kept = image == 0 ? firstImage : secondImage;
        if (!kept.isKept) {
            return STATE;
        }
        book.copyFrom(kept);
        return book.tick;
    }

    public int count(int what) {
        switch (what) {
            case 0: return land.ways;
            case 1: return land.bars;
            case 2: return book.masters.rows;
            case 3: return book.machines.rows;
            case 4: return book.leaves.rows;
            case 5: return book.lines.rows;
            case 6: return book.tick;
            case 7: return text.length;
            case 8: return book.standing();
            default: return BAD;
        }
    }

    public long trace() {
        return marks;
    }

    // ---- what the calls above share

    private static boolean within(int v, int least, int most) {
        return v >= least && v <= most;
    }

    private static boolean isState(int v) {
        return v >= 0 && v < STATES;
    }

    private static boolean isDoing(int v) {
        return v >= 0 && v < DOINGS;
    }

    /** Whether a set, told by bits, has that number. */
    private static boolean hasBit(int set, int number) {
        return number >= 0 && number < 31 && (set >> number & 1) != 0;
    }

    private boolean isLeave(int machine, int doings, int uses, int till) {
        return book.machines.has(machine) && within(doings, 0, ALL_DOINGS)
                && within(uses, 1, MOST_USES) && within(till, 0, MOST_TILL);
    }

    private int priceOf(int d) {
        return isDoing(d) ? prices[d] : 0;
    }

    private int kindOf(int d) {
        return isDoing(d) ? kinds[d] : Kinds.PLAIN;
    }

    private int dueNow(int d) {
        return Kinds.dueOf(kindOf(d), priceOf(d));
    }

    private boolean needsYes(int d) {
        return kindOf(d) == Kinds.ASKED || kindOf(d) == Kinds.STAGED;
    }

    private int insteadOf(int state, int doing) {
        if (land.isLet(state, doing)) {
            return doing;
        }
        int nearest = nearestLet(state, doing);
        if (nearest != NONE || hasBit(land.rest, state)) {
            return nearest;
        }
        return land.latestDoom(state);
    }

    private int nearestLet(int state, int doing) {
        int best = NONE;
        int bestGap = 0;
        for (int d = 0; d < DOINGS; d++) {
            int gap = Math.abs(prices[d] - priceOf(doing));
            if (land.isLet(state, d) && (best == NONE || gap < bestGap)) {
                best = d;
                bestGap = gap;
            }
        }
        return best;
    }

    /** Why an act is refused, 0 if it is not. */
    private int whyRefused(int machine, int done, int lot) {
        if (!isDoing(done) || lot >= land.lotsIn(book.machines.get(machine, Book.AT), done)) {
            return 1;
        }
        if (book.leaveFor(machine, done) < 0) {
            return 2;
        }
        if (needsYes(done) && book.machines.get(machine, Book.YES) <= 0) {
            return 3;
        }
        if (!book.canSpend(book.machines.get(machine, Book.MASTER), dueNow(done))) {
            return 4;
        }
        return book.lines.isFull() ? 5 : 0;
    }

    /** An act that nothing refuses. */
    private void perform(int machine, int wanted, int done, int lot) {
        int at = book.machines.get(machine, Book.AT);
        int to = land.lotAt(at, done, lot);
        int leave = book.leaveFor(machine, done);
        int amount = dueNow(done);
        int line = book.addLine(machine, leave, amount);
        book.lines.put(line, Book.WANTED, wanted);
        book.lines.put(line, Book.DONE, done);
        book.lines.put(line, Book.AHEAD, at);
        book.lines.put(line, Book.BEHIND, to);
        book.lines.put(line, Book.LOT, lot);
        book.useUp(leave);
        book.spend(book.machines.get(machine, Book.MASTER), amount);
        if (needsYes(done)) {
            book.machines.add(machine, Book.YES, -1);
        }
        book.machines.put(machine, Book.AT, to);
        book.tick++;
    }

    private int wishOf(int master) {
        return book.masters.has(master) && within(master, 0, MASTERS - 1) ? wishes[master] : 0;
    }

    /** Whether the masters, the least number first, wish more for one doing than for another. */
    private boolean isMoreWished(int state, int d, int other) {
        for (int m = 0; m < MASTERS; m++) {
            // parts are compared crosswise, so that nothing is rounded
            int part = Integer.bitCount(land.lotSet(state, d) & wishOf(m))
                    * land.lotsIn(state, other);
            int otherPart = Integer.bitCount(land.lotSet(state, other) & wishOf(m))
                    * land.lotsIn(state, d);
            if (part != otherPart) {
                return part > otherPart;
            }
        }
        return false;
    }

    /** In how many ways own of all lines are dealt so that at least so many of the marked come. */
    private static long dealsOf(int all, int marked, int own, int least) {
        long deals = 0;
        for (int k = least; k <= own && k <= MOST_DEALT; k++) {
            deals += choose(marked, k) * choose(all - marked, own - k);
        }
        return deals;
    }

    private static long choose(int all, int some) {
        if (some < 0 || some > all || all > MOST_DEALT) {
            return 0;
        }
        long ways = 1;
        for (int i = 1; i <= some; i++) {
            ways = ways * (all - some + i) / i;
        }
        return ways;
    }

    /** What each kind asks. Staged is under asked, all others under plain. */
    private static final class Kinds {
        static final int PLAIN = 0, FREE = 1, ASKED = 2, STAGED = 3, UNDOABLE = 4, LAST = 5;

        static int dueOf(int kind, int price) {
            switch (kind) {
                case FREE: return price / 3;
                case ASKED: return price + 1;
                case STAGED: return (price + 1 + 1) / 2;
                case UNDOABLE: return price + 2;
                case LAST: return price * 2;
                default: return price;
            }
        }

        /** The marks of a kind and of all above it. */
        static long marksOf(int kind) {
            switch (kind) {
                case FREE: return 11;
                case ASKED: return 101;
                case STAGED: return 1101;
                case UNDOABLE: return 10001;
                case LAST: return 100001;
                default: return 1;
            }
        }
    }

    /** The bytes typed so far. */
    private static final class Text {
        private final int[] bytes = new int[TEXT_ROOM];
        private int length;

        void append(int b) {
            if (length >= 0 && length < TEXT_ROOM) {
                bytes[length] = b;
                length++;
            }
        }

        int byteAt(int i) {
            return i >= 0 && i < length && i < TEXT_ROOM ? bytes[i] : -1;
        }
    }

    /** The tokens of a text, walked one at a time; behind the last one stands the end. */
    private static final class Tokens {
        static final int END = 0, NUMBER = 1, DOING = 2, NEVER = 3, GOAL = 4, REST = 5, BAR = 6;
        static final int ARROW = 7, STOP = 8, WRONG = 9;

        private final int[] sorts = new int[TEXT_ROOM + 1];
        /** Which number or doing a token is. */
        private final int[] values = new int[TEXT_ROOM + 1];
        /** Where a token begins; the text's length at the end. */
        private final int[] starts = new int[TEXT_ROOM + 1];
        private int count;
        private int at;

        void split(Text text) {
            count = 0;
            at = 0;
            int place = 0;
            while (place < text.length) {
                int end = Math.max(endOf(text, place), place + 1);
                int b = text.byteAt(place);
                if (isDigit(b)) {
                    addNumber(text, place, end);
                } else if (isLetter(b)) {
                    addWord(text, place, end);
                } else if (b != ' ') {
                    addToken(b == '>' ? ARROW : b == ';' ? STOP : WRONG, 0, place);
                }
                place = end;
            }
            addToken(END, 0, text.length);
        }

        int sort() {
            return at >= 0 && at < count && at <= TEXT_ROOM ? sorts[at] : END;
        }

        int value() {
            return at >= 0 && at < count && at <= TEXT_ROOM ? values[at] : 0;
        }

        int start() {
            return at >= 0 && at < count && at <= TEXT_ROOM ? starts[at] : 0;
        }

        void step() {
            if (at < count - 1) {
                at++;
            }
        }

        /** Goes on, if the token is of that sort: whether it is. */
        boolean pass(int sort) {
            boolean stands = sort() == sort;
            if (stands) {
                step();
            }
            return stands;
        }

        private void addToken(int sort, int value, int start) {
            if (count >= 0 && count <= TEXT_ROOM) {
                sorts[count] = sort;
                values[count] = value;
                starts[count] = start;
                count++;
            }
        }

        /** Where the row of digits or of letters ends that begins at a place. */
        private static int endOf(Text text, int start) {
            boolean digits = isDigit(text.byteAt(start));
            boolean letters = isLetter(text.byteAt(start));
            for (int i = start; i < text.length; i++) {
                int b = text.byteAt(i);
                if (!(digits && isDigit(b)) && !(letters && isLetter(b))) {
                    return i;
                }
            }
            return text.length;
        }

        private void addNumber(Text text, int start, int end) {
            int value = 0;
            for (int i = start; i < end; i++) {
                // held low, so that a long row of digits can't come round to a small number
                value = Math.min(value * 10 + text.byteAt(i) - '0', STATES);
            }
            boolean zeroAhead = text.byteAt(start) == '0' && end > start + 1;
            addToken(zeroAhead || value >= STATES ? WRONG : NUMBER, value, start);
        }

        private void addWord(Text text, int start, int end) {
            int b = text.byteAt(start);
            if (end == start + 1 && b <= 'h') {
                addToken(DOING, b - 'a', start);
            } else if (isWord(text, start, end, "never")) {
                addToken(NEVER, 0, start);
            } else if (isWord(text, start, end, "goal")) {
                addToken(GOAL, 0, start);
            } else if (isWord(text, start, end, "rest")) {
                addToken(REST, 0, start);
            } else {
                addToken(isWord(text, start, end, "bar") ? BAR : WRONG, 0, start);
            }
        }

        private static boolean isWord(Text text, int start, int end, String word) {
            if (end - start != word.length()) {
                return false;
            }
            for (int i = 0; i < word.length(); i++) {
                if (text.byteAt(start + i) != word.charAt(i)) {
                    return false;
                }
            }
            return true;
        }

        private static boolean isDigit(int b) {
            return b >= '0' && b <= '9';
        }

        private static boolean isLetter(int b) {
            return b >= 'a' && b <= 'z';
        }
    }

    /** Reads the items of a text into a world; stops at the first token that can't stand there. */
    private static final class Reader {
        private final Tokens tokens = new Tokens();

        /** The place of the fault, or NONE. */
        int readInto(World into, Text text) {
            into.empty();
            tokens.split(text);
            // each item has a token at least
            for (int i = 0; i <= TEXT_ROOM; i++) {
                if (tokens.sort() == Tokens.END) {
                    return NONE;
                }
                if (!readItem(into)) {
                    return tokens.start();
                }
            }
            return tokens.start();
        }

        private boolean readItem(World into) {
            switch (tokens.sort()) {
                case Tokens.NUMBER: return readWay(into);
                case Tokens.NEVER:
                case Tokens.GOAL:
                case Tokens.REST: return readStates(into);
                case Tokens.BAR: return readBar(into);
                default: return false;
            }
        }

        private boolean readWay(World into) {
            if (into.ways >= WAYS) {
                return false;
            }
            int state = tokens.value();
            tokens.step();
            int doing = tokens.value();
            if (tokens.sort() != Tokens.DOING || into.lotsIn(state, doing) > 0) {
                return false;
            }
            tokens.step();
            if (!tokens.pass(Tokens.ARROW) || tokens.sort() != Tokens.NUMBER) {
                return false;
            }
            for (int i = 0; i < LOTS && tokens.sort() == Tokens.NUMBER; i++) {
                if (!into.addLot(state, doing, tokens.value())) {
                    return false;
                }
                tokens.step();
            }
            into.ways++;
            return tokens.pass(Tokens.STOP);
        }

        private boolean readStates(World into) {
            int word = tokens.sort();
            tokens.step();
            if (tokens.sort() != Tokens.NUMBER) {
                return false;
            }
            for (int i = 0; i < ROW_ROOM && tokens.sort() == Tokens.NUMBER; i++) {
                into.addState(word, tokens.value());
                tokens.step();
            }
            return tokens.pass(Tokens.STOP);
        }

        private boolean readBar(World into) {
            if (into.bars >= BARS) {
                return false;
            }
            tokens.step();
            int from = tokens.value();
            if (!tokens.pass(Tokens.NUMBER) || !tokens.pass(Tokens.ARROW)) {
                return false;
            }
            int to = tokens.value();
            if (!tokens.pass(Tokens.NUMBER)) {
                return false;
            }
            into.addBar(from, to);
            return tokens.pass(Tokens.STOP);
        }
    }

    /** Ways, sets of states and bars, as a text tells them, and what follows from them. */
    private static final class World {
        private final int[] lotCounts = new int[STATES * DOINGS];
        private final int[] lotSets = new int[STATES * DOINGS];
        private final int[] lots = new int[STATES * DOINGS * LOTS];
        private final int[] barFrom = new int[BARS];
        private final int[] barTo = new int[BARS];
        private int ways, bars, never, goal, rest;

        private int broken, safe;
        private final int[] lets = new int[STATES];
        private final int[] dooms = new int[STATES];
        private final int[] toGoal = new int[STATES];
        private final int[] toRest = new int[STATES];
        private final Rounds rounds = new Rounds();

        void empty() {
            for (int w = 0; w < STATES * DOINGS; w++) {
                lotCounts[w] = 0;
                lotSets[w] = 0;
            }
            ways = 0;
            bars = 0;
            never = 0;
            goal = 0;
            rest = 0;
        }

        private static int wayOf(int state, int doing) {
            boolean stands = state >= 0 && state < STATES && doing >= 0 && doing < DOINGS;
            return stands ? state * DOINGS + doing : -1;
        }

        /** False, if there is no room for it or it is told already. */
        boolean addLot(int state, int doing, int lot) {
            int w = wayOf(state, doing);
            if (w < 0 || !isState(lot) || !within(lotCounts[w], 0, LOTS - 1) || hasBit(lotSets[w], lot)) {
                return false;
            }
            lots[w * LOTS + lotCounts[w]] = lot;
            lotCounts[w]++;
            lotSets[w] |= 1 << lot;
            return true;
        }

        void addState(int word, int state) {
            int bit = isState(state) ? 1 << state : 0;
            if (word == Tokens.NEVER) {
                never |= bit;
            } else if (word == Tokens.GOAL) {
                goal |= bit;
            } else {
                rest |= bit;
            }
        }

        void addBar(int from, int to) {
            if (bars >= 0 && bars < BARS) {
                barFrom[bars] = from;
                barTo[bars] = to;
                bars++;
            }
        }

        int lotsIn(int state, int doing) {
            int w = wayOf(state, doing);
            return w < 0 ? 0 : lotCounts[w];
        }

        int lotSet(int state, int doing) {
            int w = wayOf(state, doing);
            return w < 0 ? 0 : lotSets[w];
        }

        int lotAt(int state, int doing, int i) {
            int w = wayOf(state, doing);
            return w < 0 || i < 0 || i >= LOTS || i >= lotCounts[w] ? NONE : lots[w * LOTS + i];
        }

        /** Where a doing leads by a lot, or by the last one; without a way one stays. */
        int ledTo(int state, int doing, int lot) {
            int last = lotsIn(state, doing) - 1;
            return last < 0 ? state : lotAt(state, doing, Math.min(lot, last));
        }

        /** All states that a doing may lead to from those of a set. */
        int ledFrom(int set, int doing) {
            int to = 0;
            for (int s = 0; s < STATES; s++) {
                if (hasBit(set, s)) {
                    to |= lotSet(s, doing);
                }
            }
            return to;
        }

        int letIn(int state) {
            return isState(state) ? lets[state] : 0;
        }

        boolean isLet(int state, int doing) {
            return hasBit(letIn(state), doing);
        }

        int doomOf(int state) {
            return isState(state) ? dooms[state] : NONE;
        }

        int sureOf(int state, int set) {
            if (!isState(state)) {
                return NONE;
            }
            return set == GOAL_SET ? toGoal[state] : toRest[state];
        }

        /** Works out which states are safe, and all that follows. */
        void settle() {
            broken = never | stuckStates();
            safe = ALL_STATES & ~broken;
            // each round but the last takes a state away
            for (int i = 0; i < STATES; i++) {
                safe = thinned(safe);
            }
            for (int s = 0; s < STATES; s++) {
                lets[s] = hasBit(safe, s) ? doingsInto(s, safe) : 0;
            }
            settleDooms();
            settleSure(goal, toGoal);
            settleSure(rest, toRest);
        }

        private int stuckStates() {
            int stuck = 0;
            for (int s = 0; s < STATES; s++) {
                if (!hasBit(rest, s) && doingsInto(s, ALL_STATES) == 0) {
                    stuck |= 1 << s;
                }
            }
            return stuck;
        }

        private int thinned(int set) {
            int left = 0;
            for (int s = 0; s < STATES; s++) {
                if (hasBit(set, s) && (hasBit(rest, s) || doingsInto(s, set) != 0)) {
                    left |= 1 << s;
                }
            }
            return left;
        }

        /** The doings that have a way in a state all lots of which are in a set. */
        private int doingsInto(int state, int set) {
            int doings = 0;
            for (int d = 0; d < DOINGS; d++) {
                if (lotsIn(state, d) > 0 && (lotSet(state, d) & ~set) == 0) {
                    doings |= 1 << d;
                }
            }
            return doings;
        }

        private void settleDooms() {
            for (int s = 0; s < STATES; s++) {
                dooms[s] = hasBit(broken, s) ? 0 : NONE;
            }
            int fallen = broken;
            for (int doom = 1; doom <= STATES; doom++) {
                int falling = 0;
                for (int s = 0; s < STATES; s++) {
                    if (!hasBit(fallen | safe, s) && doingsInto(s, ALL_STATES & ~fallen) == 0) {
                        dooms[s] = doom;
                        falling |= 1 << s;
                    }
                }
                fallen |= falling;
            }
        }

        private void settleSure(int set, int[] row) {
            int come = set & safe;
            for (int s = 0; s < STATES && s < row.length; s++) {
                row[s] = hasBit(come, s) ? 0 : NONE;
            }
            for (int steps = 1; steps <= STATES; steps++) {
                int coming = 0;
                for (int s = 0; s < STATES && s < row.length; s++) {
                    if (hasBit(safe & ~come, s) && doingsInto(s, come) != 0) {
                        row[s] = steps;
                        coming |= 1 << s;
                    }
                }
                come |= coming;
            }
        }

        /** The least doing that is let by which a set is come to as soon as can be for sure. */
        int firstDoing(int state, int set) {
            int sure = sureOf(state, set);
            for (int d = 0; d < DOINGS && sure > 0; d++) {
                if (isLet(state, d) && isSureWithin(lotSet(state, d), set, sure - 1)) {
                    return d;
                }
            }
            return NONE;
        }

        private boolean isSureWithin(int states, int set, int most) {
            for (int s = 0; s < STATES; s++) {
                if (hasBit(states, s) && !within(sureOf(s, set), 0, most)) {
                    return false;
                }
            }
            return true;
        }

        /** Of the ways in a state the doing of that which may hold doom off longest, or NONE. */
        int latestDoom(int state) {
            int best = NONE;
            int bestDoom = 0;
            for (int d = 0; d < DOINGS; d++) {
                int doom = leastDoom(lotSet(state, d));
                if (lotsIn(state, d) > 0 && (best == NONE || doom > bestDoom)) {
                    best = d;
                    bestDoom = doom;
                }
            }
            return best;
        }

        /** The least doom among states; above every doom, if they have none. */
        private int leastDoom(int states) {
            int least = STATES + 1;
            for (int s = 0; s < STATES; s++) {
                if (hasBit(states, s) && dooms[s] >= 0) {
                    least = Math.min(least, dooms[s]);
                }
            }
            return least;
        }
    }

    /** Rows of two or three doings that lead round bars. */
    private static final class Rounds {
        private int rows;
        private int bar, length, first;

        void find(World land) {
            rows = 0;
            bar = NONE;
            length = NONE;
            first = NONE;
            for (int b = 0; b < land.bars && b < BARS; b++) {
                findPairs(land, b);
                findTriples(land, b);
            }
        }

        private void findPairs(World land, int b) {
            if (b < 0 || b >= BARS || !isState(land.barFrom[b])) {
                return;
            }
            for (int d = 0; d < DOINGS; d++) {
                int one = land.ledFrom(1 << land.barFrom[b], d);
                for (int e = 0; e < DOINGS; e++) {
                    if (hasBit(land.ledFrom(one, e), land.barTo[b])) {
                        note(b, 2, d + 8 * e);
                    }
                }
            }
        }

        private void findTriples(World land, int b) {
            if (b < 0 || b >= BARS || !isState(land.barFrom[b])) {
                return;
            }
            for (int d = 0; d < DOINGS; d++) {
                int one = land.ledFrom(1 << land.barFrom[b], d);
                for (int e = 0; e < DOINGS; e++) {
                    int two = land.ledFrom(one, e);
                    for (int f = 0; f < DOINGS; f++) {
                        if (hasBit(land.ledFrom(two, f), land.barTo[b])) {
                            note(b, 3, d + 8 * e + 64 * f);
                        }
                    }
                }
            }
        }

        private void note(int b, int doings, int row) {
            if (rows == 0) {
                bar = b;
                length = doings;
                first = row;
            }
            rows++;
        }
    }

    /** Rows of numbers, up to so many; what is not there reads as NONE. */
    private static final class Table {
        private final int room, width;
        private final int[] cells;
        private int rows;

        Table(int room, int width) {
            this.room = Math.max(room, 0);
            this.width = Math.max(width, 0);
            cells = new int[Math.max(room, 0) * Math.max(width, 0)];
        }

        boolean has(int row) {
            return row >= 0 && row < rows;
        }

        boolean isFull() {
            return rows >= room;
        }

        /** The number of a new row, all zeros; NONE, if there is no room. */
        int addRow() {
            if (isFull()) {
                return NONE;
            }
            int row = rows;
            rows++;
            for (int c = 0; c < width; c++) {
                put(row, c, 0);
            }
            return row;
        }

        private int cellOf(int row, int column) {
            if (row < 0 || row >= rows || column < 0 || column >= width) {
                return -1;
            }
            int cell = row * width + column;
            return cell < cells.length ? cell : -1;
        }

        int get(int row, int column) {
            int cell = cellOf(row, column);
            return cell < 0 ? NONE : cells[cell];
        }

        void put(int row, int column, int v) {
            int cell = cellOf(row, column);
            if (cell >= 0) {
                cells[cell] = v;
            }
        }

        void add(int row, int column, int v) {
            put(row, column, get(row, column) + v);
        }

        void copyRows(Table other) {
            rows = other.rows;
            for (int c = 0; c < cells.length && c < other.cells.length; c++) {
                cells[c] = other.cells[c];
            }
        }
    }

    /** All that an image keeps: masters, machines, leaves, lines and the tick. */
    private static final class Book {
        /** Columns of masters, as budget() tells them. */
        static final int OVER = 0, LIMIT = 1, SPENT = 2;
        /** Columns of machines: as about() tells them, and where they began. */
        static final int AT = 0, MASTER = 1, YES = 2, ACTS = 3, BEGAN = 4;
        /** Columns of leaves, as leave() tells them; whether one stands is not held, but worked out. */
        static final int HOLDER = 0, MAY = 1, USES = 2, TILL = 3, LENT_OF = 4, GIVER = 5;
        static final int STANDS = 6, WITHDRAWN = 7;
        /** Columns of lines: as line() tells them, and the lot. */
        static final int TICK = 0, ACTOR = 1, WANTED = 2, DONE = 3, AHEAD = 4, BEHIND = 5;
        static final int BY_LEAVE = 6, AMOUNT = 7, UNDONE = 8, LOT = 9;

        private final Table masters = new Table(MASTERS, 3);
        private final Table machines = new Table(MACHINES, 5);
        private final Table leaves = new Table(LEAVES, 8);
        private final Table lines = new Table(LINES, 10);
        private int tick;
        private boolean isKept;

        void copyFrom(Book other) {
            masters.copyRows(other.masters);
            machines.copyRows(other.machines);
            leaves.copyRows(other.leaves);
            lines.copyRows(other.lines);
            tick = other.tick;
        }

        int addMaster(int under, int most) {
            int number = masters.addRow();
            masters.put(number, OVER, under);
            masters.put(number, LIMIT, most);
            return number;
        }

        int addMachine(int master, int state) {
            int number = machines.addRow();
            machines.put(number, AT, state);
            machines.put(number, MASTER, master);
            machines.put(number, BEGAN, state);
            return number;
        }

        int addLeave(int machine, int doings, int uses, int till) {
            int number = leaves.addRow();
            leaves.put(number, HOLDER, machine);
            leaves.put(number, MAY, doings);
            leaves.put(number, USES, uses);
            leaves.put(number, TILL, till);
            return number;
        }

        int addLine(int machine, int leave, int amount) {
            int number = lines.addRow();
            lines.put(number, TICK, tick);
            lines.put(number, ACTOR, machine);
            lines.put(number, BY_LEAVE, leave);
            lines.put(number, AMOUNT, amount);
            machines.add(machine, ACTS, 1);
            return number;
        }

        /** Whether a master is another one or below it. */
        boolean isUnder(int master, int above) {
            int m = master;
            for (int i = 0; i < MASTERS && masters.has(m); i++) {
                if (m == above) {
                    return true;
                }
                m = masters.get(m, OVER);
            }
            return false;
        }

        boolean canSpend(int master, int amount) {
            int m = master;
            for (int i = 0; i < MASTERS && masters.has(m); i++) {
                if (masters.get(m, SPENT) + amount > masters.get(m, LIMIT)) {
                    return false;
                }
                m = masters.get(m, OVER);
            }
            return true;
        }

        /** Spent by a master and all above it; an amount below 0 is given back. */
        void spend(int master, int amount) {
            int m = master;
            for (int i = 0; i < MASTERS && masters.has(m); i++) {
                masters.add(m, SPENT, amount);
                m = masters.get(m, OVER);
            }
        }

        boolean isWithdrawn(int leave) {
            return leaves.get(leave, WITHDRAWN) == 1;
        }

        boolean stands(int leave) {
            int l = leave;
            for (int i = 0; i < LEAVES && leaves.has(l); i++) {
                if (isWithdrawn(l) || leaves.get(l, USES) <= 0 || tick > leaves.get(l, TILL)) {
                    return false;
                }
                l = leaves.get(l, LENT_OF);
            }
            return leaves.has(leave);
        }

        int standing() {
            int found = 0;
            for (int l = 0; l < LEAVES; l++) {
                found += stands(l) ? 1 : 0;
            }
            return found;
        }

        /** Whether so much may be lent of a leave. */
        boolean covers(int leave, int doings, int uses, int till) {
            return (doings & ~leaves.get(leave, MAY)) == 0 && uses <= leaves.get(leave, USES)
                    && till <= leaves.get(leave, TILL);
        }

        /** The least leave of a machine that stands and has a doing, or NONE. */
        int leaveFor(int machine, int doing) {
            for (int l = 0; l < LEAVES; l++) {
                if (leaves.get(l, HOLDER) == machine && hasBit(leaves.get(l, MAY), doing)
                        && stands(l)) {
                    return l;
                }
            }
            return NONE;
        }

        void useUp(int leave) {
            int l = leave;
            for (int i = 0; i < LEAVES && leaves.has(l); i++) {
                leaves.add(l, USES, -1);
                l = leaves.get(l, LENT_OF);
            }
        }

        /** Withdraws a leave and all that is lent of it: how many. */
        int takeBack(int leave) {
            int taken = 0;
            // what is lent has a higher number than that of which it is lent
            for (int l = 0; l < LEAVES && l < leaves.rows; l++) {
                if (!isWithdrawn(l) && (l == leave || isWithdrawn(leaves.get(l, LENT_OF)))) {
                    leaves.put(l, WITHDRAWN, 1);
                    taken++;
                }
            }
            return taken;
        }

        /** How many leaves lie from one up to that which was given. */
        int chainLength(int leave) {
            int found = 0;
            int l = leave;
            for (int i = 0; i < LEAVES && leaves.has(l); i++) {
                found++;
                l = leaves.get(l, LENT_OF);
            }
            return found;
        }

        int chainLeave(int leave, int k) {
            int l = leave;
            for (int i = 0; i < LEAVES && i < k; i++) {
                l = leaves.get(l, LENT_OF);
            }
            return l;
        }

        int latestLine(int machine) {
            int latest = NONE;
            for (int i = 0; i < LINES && i < lines.rows; i++) {
                latest = lines.get(i, ACTOR) == machine ? i : latest;
            }
            return latest;
        }

        void undoLine(int line) {
            int machine = lines.get(line, ACTOR);
            machines.put(machine, AT, lines.get(line, AHEAD));
            spend(machines.get(machine, MASTER), -lines.get(line, AMOUNT));
            lines.put(line, UNDONE, 1);
        }

        /** How many lines have a doing done, of one machine or (NONE) of all. */
        int linesOf(int machine, int doing) {
            int found = 0;
            for (int i = 0; i < LINES && i < lines.rows; i++) {
                boolean counts = machine == NONE || lines.get(i, ACTOR) == machine;
                found += counts && lines.get(i, DONE) == doing ? 1 : 0;
            }
            return found;
        }
    }
}
