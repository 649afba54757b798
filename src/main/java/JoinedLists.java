/**
 * All runs of a small program with draws, listed together: states that agree in all that
 * still counts are joined, and work is spent state by state.
 */
public final class JoinedLists {
    public static final int BAD = -1, FULL = -2, STATE = -3, UNEVEN = -4, NONE = -5;

    private static final int MAX_STEPS = 30;
    private static final int MAX_PLACES = MAX_STEPS + 1;
    private static final int MAX_DRAWS = 8;
    private static final int MAX_WEIGHS = 3;
    private static final int MAX_PASSED = 9;
    private static final int MAX_STATES = 200;
    private static final int MAX_WORK = 1000;
    private static final int MAX_RUNS = 20000;
    private static final int VARIABLES = 6;
    private static final int VALUES = 10;
    private static final int ROWS = 4;
    private static final int WHOLE_ROW = 60;
    private static final int ALL = -1;

    /** 60^8, so that each of eight draws divides a mass without remainder. */
    private static final long FIRST_MASS = 167961600000000L;

    /** The term of the value 0; it also stands where a step has no term, as it reads nothing. */
    private static final int TERM_OF_ZERO = 10;

    private static final int DRAW = 0, SET = 1, OBSERVE = 2, WEIGH = 3, SKIP = 4;

    private static final int PLUS = 0, MINUS = 1, TIMES = 2, LESSER = 3, GREATER = 4, ALIKE = 5, IF_ZERO = 6;

    private static final int IS_ALIKE = 0, IS_NOT_ALIKE = 1, IS_LESS = 2, IS_GREATER = 3;

    private final Program program = new Program();
    private final Listing listing = new Listing(program);
    private final Survey survey = new Survey(program);

    public JoinedLists() {
    }

    // ---- the program

    public int weight(int row, int v, int w) {
        if (!isRow(row) || !isValue(v) || w < 0 || w > WHOLE_ROW) {
            return BAD;
        }
        programChanged();
        return program.swapWeight(row, v, w);
    }

    public int draw(int x, int row) {
        if (!isVariable(x) || !isRow(row)) {
            return BAD;
        }
        return addStep(DRAW, x, row, TERM_OF_ZERO, TERM_OF_ZERO);
    }

    public int set(int x, int op, int a, int b) {
        if (!isVariable(x) || op < PLUS || op > IF_ZERO || !isTerm(a) || !isTerm(b)) {
            return BAD;
        }
        return addStep(SET, x, op, a, b);
    }

    public int observe(int a, int cmp, int b) {
        if (!isTerm(a) || cmp < IS_ALIKE || cmp > IS_GREATER || !isTerm(b)) {
            return BAD;
        }
        return addStep(OBSERVE, 0, cmp, a, b);
    }

    public int weigh(int a) {
        if (!isTerm(a)) {
            return BAD;
        }
        return addStep(WEIGH, 0, 0, a, TERM_OF_ZERO);
    }

    public int skip(int a, int n) {
        if (!isTerm(a) || n < 1 || n > MAX_PASSED) {
            return BAD;
        }
        return addStep(SKIP, 0, n, a, TERM_OF_ZERO);
    }

    public int drop() {
        if (program.stepCount == 0) {
            return STATE;
        }
        programChanged();
        return program.removeLast();
    }

    public int ask(int x, boolean on) {
        if (!isVariable(x)) {
            return BAD;
        }
        listing.end();
        return program.swapAsked(x, on) ? 1 : 0;
    }

    public int live(int place) {
        if (!isPlace(place)) {
            return BAD;
        }
        program.markLive();
        return program.liveAt(place);
    }

    // ---- the listing

    public int begin() {
        if (program.isUneven()) {
            return UNEVEN;
        }
        listing.start();
        return 1;
    }

    public int list(int work) {
        if (work < 1 || work > MAX_WORK) {
            return BAD;
        }
        return listing.open ? listing.spend(work) : STATE;
    }

    public int done() {
        if (!listing.open) {
            return STATE;
        }
        int place = listing.leastPlace();
        if (place == NONE) {
            return 1;
        }
        return listing.hasRoomBehind(place) ? 0 : 2;
    }

    public int states(int place, int what) {
        if (!isPlace(place) || what < 0 || what > 2) {
            return BAD;
        }
        if (!listing.open) {
            return STATE;
        }
        if (what == 0) {
            return listing.size(place);
        }
        return what == 1 ? listing.comes[place] : listing.joins[place];
    }

    public int code(int place, int i) {
        if (!isPlace(place)) {
            return BAD;
        }
        if (!listing.open) {
            return STATE;
        }
        return listing.has(place, i) ? Held.decimal(listing.heldAt(place, i)) : NONE;
    }

    public long mass(int place, int i) {
        if (!isPlace(place) || !listing.open || !listing.has(place, i)) {
            return 0;
        }
        return listing.massAt(place, i);
    }

    public long sum(int what, int x, int v) {
        if (what < 0 || what > 2 || !isChoice(x, v) || x != ALL && what == 1) {
            return BAD;
        }
        if (!listing.open) {
            return STATE;
        }
        if (what == 1) {
            return listing.lost;
        }
        return what == 0 ? listing.total(program.stepCount, x, v) : listing.totalBeforeEnd(x, v);
    }

    public long odds(int x, int v, int part) throws ArithmeticException {
        if (!isVariable(x) || !isValue(v) || part < 0 || part > 1 || !program.isAsked(x)) {
            return BAD;
        }
        if (!listing.open || listing.leastPlace() != NONE) {
            return STATE;
        }
        long upper = listing.total(program.stepCount, x, v);
        long lower = listing.total(program.stepCount, ALL, 0);
        long divisor = commonDivisor(upper, lower);
        if (lower <= 0 || divisor <= 0) {
            throw new ArithmeticException("nothing is at the end");
        }
        return part == 0 ? upper / divisor : lower / divisor;
    }

    // ---- every run

    public int runs() {
        return survey.tally();
    }

    public long plain(int x, int v) {
        if (!isChoice(x, v)) {
            return BAD;
        }
        int tally = survey.tally();
        if (tally < 0) {
            return tally;
        }
        return x == ALL ? survey.massAtEnd : survey.massByValue[x][v];
    }

    public int count(int what) {
        switch (what) {
            case 0:
                return program.stepCount;
            case 1:
                return program.drawCount;
            case 2:
                return program.weighCount;
            case 3:
                return listing.open ? listing.workDone : 0;
            default:
                return BAD;
        }
    }

    public int clear() {
        int before = program.stepCount;
        programChanged();
        program.reset();
        return before;
    }

    private int addStep(int kind, int target, int choice, int left, int right) {
        if (program.isFullFor(kind)) {
            return FULL;
        }
        programChanged();
        return program.append(kind, target, choice, left, right);
    }

    private void programChanged() {
        listing.end();
        survey.forget();
    }

    private boolean isPlace(int place) {
        return place >= 0 && place <= program.stepCount && place < MAX_PLACES;
    }

    private static boolean isVariable(int x) {
        return x >= 0 && x < VARIABLES;
    }

    private static boolean isValue(int v) {
        return v >= 0 && v < VALUES;
    }

    private static boolean isRow(int row) {
        return row >= 0 && row < ROWS;
    }

    private static boolean isTerm(int term) {
        return isVariable(term) || isValue(term - TERM_OF_ZERO);
    }

    /** Where no variable is chosen, the document gives v no meaning, so any v will do. */
    private static boolean isChoice(int x, int v) {
        return x == ALL || isVariable(x) && isValue(v);
    }

    /** Euclid's steps shrink two longs to 0 in fewer than 100 turns. */
    private static long commonDivisor(long one, long other) {
        long greater = one;
        long lesser = other;
        for (int turn = 0; turn < 100 && lesser != 0; turn++) {
            long rest = greater % lesser;
            greater = lesser;
            lesser = rest;
        }
        return greater;
    }

    /**
     * The values of all variables in one int, four bits each, variable 0 uppermost: so they
     * stand in the same order as their codes, and a mask can drop what is not live.
     */
    private static final class Held {
        private static final int BITS = 4;
        private static final int DIGIT = 15;
        private static final int TOP = BITS * (VARIABLES - 1);

        static int valueOf(int held, int x) {
            return (held >> TOP - BITS * x) & DIGIT;
        }

        static int with(int held, int x, int v) {
            int shift = TOP - BITS * x;
            return held & ~(DIGIT << shift) | v << shift;
        }

        static int maskOf(int variables) {
            int mask = 0;
            for (int x = 0; x < VARIABLES; x++) {
                if ((variables & 1 << x) != 0) {
                    mask |= DIGIT << TOP - BITS * x;
                }
            }
            return mask;
        }

        static int decimal(int held) {
            int code = 0;
            for (int x = 0; x < VARIABLES; x++) {
                code = code * 10 + valueOf(held, x);
            }
            return code;
        }
    }

    /** The steps, the rows of weights and what is asked; and what one step makes of a run. */
    private static final class Program {
        private final int[] kinds = new int[MAX_STEPS];
        private final int[] targets = new int[MAX_STEPS];
        /** The row of a draw, the op of a set, the cmp of an observe, the n of a skip. */
        private final int[] choices = new int[MAX_STEPS];
        private final int[] lefts = new int[MAX_STEPS];
        private final int[] rights = new int[MAX_STEPS];
        private final int[][] weights = new int[ROWS][VALUES];
        private final int[] liveSets = new int[MAX_PLACES];
        private int asked;
        private int stepCount;
        private int drawCount;
        private int weighCount;

        Program() {
            reset();
        }

        private void reset() {
            stepCount = 0;
            drawCount = 0;
            weighCount = 0;
            asked = 0;
            for (int row = 0; row < ROWS; row++) {
                for (int v = 0; v < VALUES; v++) {
                    weights[row][v] = v == 0 ? WHOLE_ROW : 0;
                }
            }
        }

        int swapWeight(int row, int v, int w) {
            if (!isRow(row) || !isValue(v)) {
                return BAD;
            }
            int before = weights[row][v];
            weights[row][v] = w;
            return before;
        }

        boolean isAsked(int x) {
            return (asked & 1 << x) != 0;
        }

        boolean swapAsked(int x, boolean on) {
            boolean before = isAsked(x);
            asked = on ? asked | 1 << x : asked & ~(1 << x);
            return before;
        }

        boolean isFullFor(int kind) {
            return stepCount >= MAX_STEPS
                    || kind == DRAW && drawCount >= MAX_DRAWS
                    || kind == WEIGH && weighCount >= MAX_WEIGHS;
        }

        int append(int kind, int target, int choice, int left, int right) {
            int step = stepCount;
            if (step < 0 || step >= MAX_STEPS) {
                return FULL;
            }
            kinds[step] = kind;
            targets[step] = target;
            choices[step] = choice;
            lefts[step] = left;
            rights[step] = right;
            stepCount = step + 1;
            countKind(kind, 1);
            return step;
        }

        int removeLast() {
            int step = stepCount - 1;
            if (!isStep(step)) {
                return STATE;
            }
            countKind(kinds[step], -1);
            stepCount = step;
            return step;
        }

        private void countKind(int kind, int change) {
            if (kind == DRAW) {
                drawCount += change;
            } else if (kind == WEIGH) {
                weighCount += change;
            }
        }

        boolean isStep(int step) {
            return step >= 0 && step < stepCount && step < MAX_STEPS;
        }

        boolean isDraw(int step) {
            return isStep(step) && kinds[step] == DRAW;
        }

        boolean isUneven() {
            for (int step = 0; step < stepCount; step++) {
                if (isDraw(step) && rowTotal(choices[step]) != WHOLE_ROW) {
                    return true;
                }
            }
            return false;
        }

        private int rowTotal(int row) {
            int total = 0;
            for (int v = 0; v < VALUES; v++) {
                total += weightOf(row, v);
            }
            return total;
        }

        private int weightOf(int row, int v) {
            return isRow(row) && isValue(v) ? weights[row][v] : 0;
        }

        /** Steps lead only forward, so one pass from the end finds every live set. */
        void markLive() {
            for (int place = stepCount; place >= 0; place--) {
                if (place < MAX_PLACES) {
                    liveSets[place] = isStep(place) ? liveAtStep(place) : asked;
                }
            }
        }

        int liveAt(int place) {
            return place >= 0 && place < MAX_PLACES ? liveSets[place] : 0;
        }

        private int liveAtStep(int step) {
            int live = liveAt(step + 1);
            int kind = kinds[step];
            int target = 1 << targets[step];
            if (kind == SKIP) {
                live |= liveAt(placeSkippedTo(step));
            } else if (kind == SET && choices[step] == IF_ZERO) {
                live |= target;
            } else if (kind == SET || kind == DRAW) {
                live &= ~target;
            }
            return live | variableOf(lefts[step]) | variableOf(rights[step]);
        }

        private static int variableOf(int term) {
            return isVariable(term) ? 1 << term : 0;
        }

        private static int termValue(int term, int held) {
            return isVariable(term) ? Held.valueOf(held, term) : term - TERM_OF_ZERO;
        }

        private int placeSkippedTo(int step) {
            return Math.min(step + 1 + choices[step], stepCount);
        }

        /** A draw goes one way for each value, every other step a single way, way 0. */
        int ways(int step) {
            return isDraw(step) ? VALUES : 1;
        }

        int placeBehind(int step, int held) {
            if (isStep(step) && kinds[step] == SKIP && termValue(lefts[step], held) == 0) {
                return placeSkippedTo(step);
            }
            return step + 1;
        }

        /** 0: there is no such way, or the run is lost on it. */
        long massBehind(int step, int way, int held, long mass) {
            if (!isStep(step)) {
                return mass;
            }
            int left = termValue(lefts[step], held);
            switch (kinds[step]) {
                case DRAW:
                    return mass * weightOf(choices[step], way) / WHOLE_ROW;
                case OBSERVE:
                    return isSeen(choices[step], left, termValue(rights[step], held)) ? mass : 0;
                case WEIGH:
                    return mass * left;
                default:
                    return mass;
            }
        }

        int heldBehind(int step, int way, int held) {
            if (!isStep(step)) {
                return held;
            }
            int target = targets[step];
            if (kinds[step] == DRAW) {
                return Held.with(held, target, way);
            }
            if (kinds[step] != SET) {
                return held;
            }
            int left = termValue(lefts[step], held);
            int right = termValue(rights[step], held);
            int before = Held.valueOf(held, target);
            return Held.with(held, target, combined(choices[step], left, right, before));
        }

        private static boolean isSeen(int cmp, int left, int right) {
            switch (cmp) {
                case IS_ALIKE:
                    return left == right;
                case IS_NOT_ALIKE:
                    return left != right;
                case IS_LESS:
                    return left < right;
                default:
                    return left > right;
            }
        }

        private static int combined(int op, int left, int right, int before) {
            switch (op) {
                case PLUS:
                    return (left + right) % VALUES;
                case MINUS:
                    return (left - right + VALUES) % VALUES;
                case TIMES:
                    return left * right % VALUES;
                case LESSER:
                    return Math.min(left, right);
                case GREATER:
                    return Math.max(left, right);
                case ALIKE:
                    return left == right ? 1 : 0;
                default:
                    return right == 0 ? left : before;
            }
        }
    }

    /** The states of every place, by their codes, and the work that moves them on. */
    private static final class Listing {
        private final Program program;
        private final int[][] helds = new int[MAX_PLACES][MAX_STATES];
        private final long[][] masses = new long[MAX_PLACES][MAX_STATES];
        /**
         * The states of a place stand from its first up to, not with, its end. Steps lead only
         * forward and the least place is worked on, so nothing comes to a place whose first has
         * moved: its end is always the room that is taken.
         */
        private final int[] firsts = new int[MAX_PLACES];
        private final int[] ends = new int[MAX_PLACES];
        private final int[] comes = new int[MAX_PLACES];
        private final int[] joins = new int[MAX_PLACES];
        private final int[] liveMasks = new int[MAX_PLACES];
        private boolean open;
        private long lost;
        private int workDone;

        Listing(Program program) {
            this.program = program;
        }

        void end() {
            open = false;
        }

        void start() {
            program.markLive();
            for (int place = 0; place < MAX_PLACES; place++) {
                firsts[place] = 0;
                ends[place] = 0;
                comes[place] = 0;
                joins[place] = 0;
                liveMasks[place] = Held.maskOf(program.liveAt(place));
            }
            open = true;
            lost = 0;
            workDone = 0;
            come(0, 0, FIRST_MASS);
        }

        int size(int place) {
            return place >= 0 && place < MAX_PLACES ? ends[place] - firsts[place] : 0;
        }

        boolean has(int place, int i) {
            return i >= 0 && i < size(place);
        }

        int heldAt(int place, int i) {
            return has(place, i) ? helds[place][firsts[place] + i] : 0;
        }

        long massAt(int place, int i) {
            return has(place, i) ? masses[place][firsts[place] + i] : 0;
        }

        long total(int place, int x, int v) {
            long total = 0;
            int size = size(place);
            for (int i = 0; i < size; i++) {
                if (x == ALL || Held.valueOf(heldAt(place, i), x) == v) {
                    total += massAt(place, i);
                }
            }
            return total;
        }

        long totalBeforeEnd(int x, int v) {
            long total = 0;
            for (int place = 0; place < program.stepCount; place++) {
                total += total(place, x, v);
            }
            return total;
        }

        /** NONE: it is done. */
        int leastPlace() {
            for (int place = 0; place < program.stepCount; place++) {
                if (size(place) > 0) {
                    return place;
                }
            }
            return NONE;
        }

        int spend(int work) {
            int spent = 0;
            while (spent < work) {
                int place = leastPlace();
                if (place == NONE || !hasRoomBehind(place)) {
                    break;
                }
                moveLeast(place);
                spent++;
            }
            return spent;
        }

        boolean hasRoomBehind(int place) {
            int held = heldAt(place, 0);
            int next = program.placeBehind(place, held);
            if (next < 0 || next >= MAX_PLACES) {
                return false;
            }
            int free = MAX_STATES - ends[next];
            return program.ways(place) <= free || newBehind(place, next) <= free;
        }

        /** How many states the least one of a place would add to the next place. */
        private int newBehind(int place, int next) {
            int held = heldAt(place, 0);
            long mass = massAt(place, 0);
            int ways = program.ways(place);
            int added = 0;
            int lastAdded = NONE;
            for (int way = 0; way < ways; way++) {
                if (program.massBehind(place, way, held, mass) > 0) {
                    int behind = program.heldBehind(place, way, held) & liveMasks[next];
                    // Ways of a draw differ all, or, where its variable is not live, none does.
                    if (behind != lastAdded && !isThere(next, behind, seat(next, behind))) {
                        added++;
                        lastAdded = behind;
                    }
                }
            }
            return added;
        }

        private void moveLeast(int place) {
            int held = heldAt(place, 0);
            long mass = massAt(place, 0);
            int next = program.placeBehind(place, held);
            int ways = program.ways(place);
            firsts[place]++;
            workDone++;
            for (int way = 0; way < ways; way++) {
                long behind = program.massBehind(place, way, held, mass);
                if (behind > 0) {
                    come(next, program.heldBehind(place, way, held), behind);
                } else if (!program.isDraw(place)) {
                    lost += mass;
                }
            }
        }

        private void come(int place, int heldByRun, long mass) {
            if (place < 0 || place >= MAX_PLACES) {
                return;
            }
            int held = heldByRun & liveMasks[place];
            int seat = seat(place, held);
            comes[place]++;
            if (isThere(place, held, seat)) {
                masses[place][seat] += mass;
                joins[place]++;
            } else {
                insert(place, seat, held, mass);
            }
        }

        private void insert(int place, int seat, int held, long mass) {
            int end = ends[place];
            if (seat < 0 || seat > end || end >= MAX_STATES) {
                return;
            }
            System.arraycopy(helds[place], seat, helds[place], seat + 1, end - seat);
            System.arraycopy(masses[place], seat, masses[place], seat + 1, end - seat);
            helds[place][seat] = held;
            masses[place][seat] = mass;
            ends[place] = end + 1;
        }

        private boolean isThere(int place, int held, int seat) {
            return seat >= 0 && seat < ends[place] && helds[place][seat] == held;
        }

        /** Where a state stands at a place, or would have to. */
        private int seat(int place, int held) {
            int low = firsts[place];
            int high = ends[place];
            for (int turn = 0; turn < MAX_STATES && low < high; turn++) {
                int middle = (low + high) >> 1;
                if (helds[place][middle] < held) {
                    low = middle + 1;
                } else {
                    high = middle;
                }
            }
            return low;
        }
    }

    /** Every run by itself, nothing joined; kept until steps or weights change. */
    private static final class Survey {
        private final Program program;
        private final long[][] massByValue = new long[VARIABLES][VALUES];
        private long massAtEnd;
        private int runCount;
        private boolean kept;

        Survey(Program program) {
            this.program = program;
        }

        void forget() {
            kept = false;
        }

        /** How many runs there are, or why that is refused. */
        int tally() {
            if (program.isUneven()) {
                return UNEVEN;
            }
            if (!kept) {
                empty();
                follow(0, 0, FIRST_MASS, 0);
                kept = true;
            }
            return runCount > MAX_RUNS ? FULL : runCount;
        }

        private void empty() {
            for (int x = 0; x < VARIABLES; x++) {
                for (int v = 0; v < VALUES; v++) {
                    massByValue[x][v] = 0;
                }
            }
            massAtEnd = 0;
            runCount = 0;
        }

        private void follow(int firstPlace, int firstHeld, long firstMass, int draws) {
            int place = firstPlace;
            int held = firstHeld;
            long mass = firstMass;
            for (int turn = 0; turn < MAX_STEPS && program.isStep(place) && mass > 0; turn++) {
                if (program.isDraw(place)) {
                    branch(place, held, mass, draws);
                    return;
                }
                int next = program.placeBehind(place, held);
                mass = program.massBehind(place, 0, held, mass);
                held = program.heldBehind(place, 0, held);
                place = next;
            }
            runCount++;
            if (mass > 0) {
                addAtEnd(held, mass);
            }
        }

        private void branch(int step, int held, long mass, int draws) {
            if (draws >= MAX_DRAWS) {
                return;
            }
            for (int v = 0; v < VALUES && runCount <= MAX_RUNS; v++) {
                long part = program.massBehind(step, v, held, mass);
                if (part > 0) {
                    follow(step + 1, program.heldBehind(step, v, held), part, draws + 1);
                }
            }
        }

        private void addAtEnd(int held, long mass) {
            massAtEnd += mass;
            for (int x = 0; x < VARIABLES; x++) {
                int v = Held.valueOf(held, x);
                if (isValue(v)) {
                    massByValue[x][v] += mass;
                }
            }
        }
    }
}
