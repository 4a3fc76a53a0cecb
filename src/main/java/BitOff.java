/**
 * Sides that are longer and shorter, and somebody who cuts some off the longest.
 * What each call does is told by ../shared/DOC.md, promise by promise.
 */
public final class BitOff {
    public static final int NONE = -1, BAD = -2, STATE = -3, FULL = -4;
    public static final long NO = Long.MIN_VALUE;

    private static final int NOT_SO = -5;
    private static final int NOTHING = -11, CAST = -12, PLACE = -13, SIZE = -14;
    private static final int NO_NUMBER = -10001, NO_STOOL = -5000;

    private static final int MOST_SIDES = 6, KINDS = 7, TOLD_KIND = 6;
    private static final int MOST_V = 9, MOST_LONG = 999, MOST_CUT = 99999, MOST_COUNT = 9999;
    private static final int MOST_KITCHENS = 6;
    private static final int MOST_AHEAD = 60, AHEAD = 30, MOST_DAYS = 99, MOST_LEAVE = 30;
    private static final int MOST_CHANGE = 99, MOST_GUESS = 99, BIT_LONGER = 5;
    private static final int ROW_PARTS = 4, LEGS = 4;
    private static final int ABOVE_ANY_OFF = 1000000;

    private final Table table;
    private final Notes notes;
    private final Table pictureTable;
    private final Notes pictureNotes;
    private boolean pictured;
    /** Whatever is asked is tried on this one, so that the asking makes no new objects. */
    private final Table trial;
    private final Kitchen[] kitchens;
    private int kitchensRead;
    private final Reader reader;
    private final Acts acts;
    private final Tapes tapes;

    public BitOff() {
        Kitchen plain = new Kitchen();
        table = new Table(plain);
        pictureTable = new Table(plain);
        trial = new Table(plain);
        notes = new Notes();
        pictureNotes = new Notes();
        kitchens = new Kitchen[MOST_KITCHENS];
        for (int i = 0; i < MOST_KITCHENS; i++) kitchens[i] = new Kitchen();
        reader = new Reader();
        acts = new Acts();
        tapes = new Tapes();
    }

    // ---- sides, kitchens

    public int side(int kind, int v, int length) {
        if (!isWithin(kind, 0, KINDS - 1)) return NONE;
        if (!isWithin(v, 0, MOST_V) || !isWithin(length, 0, MOST_LONG)) return BAD;
        if (table.people >= MOST_SIDES) return FULL;
        return table.join(kind, v, length);
    }

    public int of(int side, int what) {
        if (!isSide(side)) return NO_NUMBER;
        switch (what) {
            case 0: return table.kinds[side];
            case 1: return table.numbers[side];
            case 2: return table.lengths[side];
            case 3: return table.cuts[side];
            case 4: return table.looksOf(side);
            case 5: return table.growsBy(side);
            default: return NO_NUMBER;
        }
    }

    public int taken(int side, int c) {
        if (!isSide(side)) return NONE;
        if (!isWithin(c, 0, MOST_LONG)) return BAD;
        return table.takenBy(side, c);
    }

    public int set(int side, int n) {
        if (!isSide(side)) return NONE;
        if (!isWithin(n, 0, MOST_LONG)) return BAD;
        int was = table.lengths[side];
        table.lengths[side] = n;
        return was;
    }

    public int row(int side, int part, int n) {
        if (!isSide(side) || !isWithin(part, 0, ROW_PARTS - 1)) return NONE;
        if (!isWithin(n, 0, MOST_V)) return BAD;
        if (table.kinds[side] != TOLD_KIND) return STATE;
        int place = side * ROW_PARTS + part;
        int was = table.rows[place];
        table.rows[place] = n;
        return was;
    }

    public int feed(int sign) {
        if (!isWithin(sign, 0, 127)) return BAD;
        return reader.append(sign) ? reader.length : FULL;
    }

    public int kitchen() {
        if (kitchensRead >= MOST_KITCHENS) return FULL;
        Kitchen next = kitchens[kitchensRead];
        boolean isOne = reader.readsAll(next);
        reader.length = 0;
        if (!isOne) return -10 - reader.at;
        table.follow(next);
        kitchensRead++;
        return kitchensRead - 1;
    }

    public int told(int what) {
        switch (what) {
            case 0: return table.snips;
            case 1: return table.days;
            case 2: return table.give;
            case 3: return table.leave;
            case 4: return table.half ? 1 : 0;
            case 5: return table.spread();
            case 6: return table.isDone() ? 1 : 0;
            default: return NONE;
        }
    }

    // ---- snips, days

    public int snip() {
        if (table.isDone()) return NOT_SO;
        if (table.snips >= MOST_COUNT) return STATE;
        return table.cutLongest();
    }

    public int pass(int n) {
        if (!isWithin(n, 0, MOST_DAYS)) return BAD;
        if (table.days + n > MOST_COUNT) return STATE;
        for (int i = 0; i < n; i++) table.growADay();
        return table.days;
    }

    public int on(int n, int what) {
        boolean ofOne = what >= 10 && isSide(what - 10);
        if (what != 0 && what != 1 && !ofOne) return NONE;
        if (!isWithin(n, 0, MOST_AHEAD)) return BAD;
        trial.copyFrom(table);
        int off = trial.cutTimes(n);
        if (what == 0) return off;
        return what == 1 ? trial.cutMore : trial.lengths[what - 10];
    }

    public int ends() {
        trial.copyFrom(table);
        for (int n = 0; n <= MOST_AHEAD; n++) {
            if (trial.cutLongest() == NOT_SO) return n;
        }
        return NOT_SO;
    }

    public int shortest(int n) {
        if (!isWithin(n, 0, MOST_AHEAD)) return BAD;
        trial.copyFrom(table);
        trial.cutTimes(n);
        return trial.leastLong();
    }

    public int sides(int n) {
        if (!isWithin(n, 1, MOST_AHEAD)) return BAD;
        trial.copyFrom(table);
        int bits = 0;
        for (int i = 0; i < n; i++) {
            int s = trial.cutLongest();
            if (s == NOT_SO) break;
            bits |= 1 << s;
        }
        return bits;
    }

    // ---- what is best

    /**
     * LEAVE tells only when it is DONE, not what is cut: so one walk of 30 SNIPS
     * shows them all, each leaving it where the gap is no more than it.
     */
    public int leaves(int what) {
        if (!isWithin(what, 0, 1)) return NONE;
        trial.copyFrom(table);
        trial.leave = 0;
        int open = MOST_LEAVE + 1;
        int best = 0;
        int bestOff = ABOVE_ANY_OFF;
        for (int n = 0; n <= AHEAD && open > 0; n++) {
            int gap = n < AHEAD ? trial.gapSeen() : 0;
            if (gap < open) {
                int off = trial.spread();
                if (off < bestOff) {
                    bestOff = off;
                    best = open - 1;
                }
                open = gap;
            }
            trial.cutLongest();
        }
        return what == 0 ? best : bestOff;
    }

    public int halves() {
        trial.copyFrom(table);
        trial.half = false;
        int whole = trial.cutTimes(AHEAD);
        trial.copyFrom(table);
        trial.half = true;
        return whole - trial.cutTimes(AHEAD);
    }

    public int first(int c) {
        if (!isWithin(c, 1, MOST_CHANGE)) return BAD;
        int best = NOT_SO;
        int bestOff = ABOVE_ANY_OFF;
        for (int s = 0; s < table.people; s++) {
            trial.copyFrom(table);
            trial.cutOff(s, c);
            int off = trial.cutTimes(AHEAD);
            if (off < bestOff) {
                bestOff = off;
                best = s;
            }
        }
        return best;
    }

    public int twice() {
        trial.copyFrom(table);
        int asItIs = trial.cutTimes(AHEAD);
        trial.copyFrom(table);
        trial.give = 0;
        return asItIs - trial.cutTimes(AHEAD);
    }

    public int pad() {
        trial.copyFrom(table);
        int best = NOT_SO;
        int bestOff = table.spread();
        for (int s = 0; s < table.people; s++) {
            for (int more = 1; more <= MOST_CHANGE; more++) {
                trial.lengths[s] = table.lengths[s] + more;
                int off = trial.spread();
                if (off < bestOff) {
                    bestOff = off;
                    best = 100 * s + more;
                }
            }
            trial.lengths[s] = table.lengths[s];
        }
        return best;
    }

    public int wobbles() {
        if (table.people < LEGS) return NO_STOOL;
        int[] lengths = table.lengths;
        return lengths[0] + lengths[2] - lengths[1] - lengths[3];
    }

    public int leg() {
        if (table.people < LEGS) return NOT_SO;
        int wobble = wobbles();
        if (wobble == 0) return NOT_SO;
        int one = wobble > 0 ? 0 : 1;
        int longer = table.lengths[one + 2] > table.lengths[one] ? one + 2 : one;
        int much = wobble > 0 ? wobble : -wobble;
        return much > table.lengths[longer] ? NOT_SO : 1000 * longer + much;
    }

    public int grown(int q) {
        if (!isWithin(q, 0, MOST_LONG)) return BAD;
        trial.copyFrom(table);
        for (int day = 0; day <= MOST_DAYS; day++) {
            if (trial.spread() <= q) return day;
            trial.growADay();
        }
        return NOT_SO;
    }

    public int reaches(int side, int h) {
        if (!isSide(side)) return NONE;
        if (!isWithin(h, 0, MOST_LONG)) return BAD;
        trial.copyFrom(table);
        for (int day = 0; day <= MOST_DAYS; day++) {
            if (trial.lengths[side] >= h) return day;
            trial.growADay();
        }
        return NOT_SO;
    }

    // ---- seen, odds

    public int see(int n) {
        if (n == -1) {
            notes.seenRows = 0;
            return 0;
        }
        if (!isWithin(n, 0, MOST_LONG)) return BAD;
        return notes.addSeen(n) ? notes.seenRows : FULL;
    }

    public int was(int side, int what) {
        if (!isSide(side) || !isWithin(what, 0, 1)) return NONE;
        int many = 0;
        int least = NOT_SO;
        for (int length = 0; length <= MOST_GUESS; length++) {
            trial.copyFrom(table);
            trial.lengths[side] = length;
            if (!takesWhatWasSeen()) continue;
            if (many == 0) least = length;
            many++;
        }
        return what == 0 ? many : least;
    }

    public int now() {
        trial.copyFrom(table);
        return takesWhatWasSeen() ? 1 : 0;
    }

    public long odds(int q, int part) {
        if (!isWithin(q, 0, MOST_LONG) || !isWithin(part, 0, 1)) return NO;
        int good = 0;
        for (int s = 0; s < table.people; s++) {
            trial.copyFrom(table);
            trial.lengths[s] += BIT_LONGER;
            if (trial.cutTimes(AHEAD) <= q) good++;
        }
        return lowestTerms(good, table.people, part);
    }

    public long mean(int n, int part) {
        if (!isWithin(n, 0, MOST_AHEAD) || !isWithin(part, 0, 1)) return NO;
        trial.copyFrom(table);
        trial.cutTimes(n);
        return lowestTerms(trial.allLong(), table.people, part);
    }

    // ---- plans, books

    public int plan(int what) {
        if (what == -1) {
            notes.planRows = 0;
            return 0;
        }
        if (!isWithin(what, 0, 1)) return NONE;
        return notes.addPlan(what) ? notes.planRows : FULL;
    }

    public int planned(int what) {
        if (!isWithin(what, 0, 1)) return NONE;
        trial.copyFrom(table);
        for (int i = 0; i < notes.planRows; i++) {
            if (notes.planSteps[i] == 0) trial.cutLongest();
            else trial.growADay();
        }
        return what == 0 ? trial.spread() : trial.cutMore;
    }

    public int book(int side, int length) {
        if (side == -1) {
            notes.bookRows = 0;
            return 0;
        }
        if (!isSide(side)) return NONE;
        if (!isWithin(length, 0, MOST_LONG)) return BAD;
        return notes.addBook(side, length) ? notes.bookRows : FULL;
    }

    public int looked() {
        for (int i = 0; i < notes.bookRows; i++) {
            int s = notes.bookSides[i];
            if (!isSide(s) || table.lengths[s] != notes.bookLengths[i]) return i;
        }
        return NOT_SO;
    }

    // ---- judging, the image, acts, tapes

    public int judge(int tape, int i) {
        if (!tapes.isTape(tape)) return NONE;
        if (tapes.holds(tape) && tapes.sorts[tape] != Tapes.SHORTS) return CAST;
        for (int s = 0; s < table.people; s++) {
            // long, as i may be the greatest int
            long place = (long) i + s;
            if (!tapes.isPlace(tape, place)) return 100 + s;
            if (tapes.rows[tape][(int) place] != table.lengths[s]) return s;
        }
        return NOT_SO;
    }

    public int image() {
        pictureTable.copyFrom(table);
        pictureNotes.copyFrom(notes);
        pictured = true;
        return table.people;
    }

    public int undo() {
        if (!pictured) return STATE;
        table.copyFrom(pictureTable);
        notes.copyFrom(pictureNotes);
        return table.people;
    }

    public int act(int side, int act, int x) {
        acts.ran = 0;
        if (!isSide(side) || !isWithin(act, 0, 2)) return 0;
        acts.kind = table.kinds[side];
        acts.v = table.numbers[side];
        acts.number = side;
        return acts.perform(act, x);
    }

    public int trace(int i) {
        return i >= 0 && i < acts.ran && i < Acts.KEPT ? acts.bodies[i] : NONE;
    }

    public int cast(int side, int k) {
        if (!isWithin(k, 0, KINDS - 1)) return BAD;
        if (!isSide(side)) return NOTHING;
        int kind = table.kinds[side];
        return Table.isOfKind(kind, k) ? kind : CAST;
    }

    public int count(int what) {
        switch (what) {
            case 0: return table.people;
            case 1: return kitchensRead;
            case 2: return notes.seenRows;
            case 3: return notes.planRows;
            case 4: return notes.bookRows;
            case 5: return reader.length;
            case 6: return acts.ran;
            default: return BAD;
        }
    }

    public int tape(int tape, int sort, int n) {
        if (!tapes.isTape(tape)) return NONE;
        if (!isWithin(sort, Tapes.NO_SORT, Tapes.BOOLEANS)) return BAD;
        if (sort == Tapes.NO_SORT) {
            tapes.sorts[tape] = Tapes.NO_SORT;
            return 1;
        }
        if (n > Tapes.LONGEST) return BAD;
        if (n < 0) return SIZE;
        tapes.makeRow(tape, sort, n);
        return 1;
    }

    public int item(int tape, int i, long v) {
        if (!tapes.isTape(tape)) return NONE;
        if (!tapes.holds(tape)) return NOTHING;
        if (!tapes.isPlace(tape, i)) return PLACE;
        tapes.rows[tape][i] = Tapes.fitted(tapes.sorts[tape], v);
        return 1;
    }

    public long read(int tape, int i) {
        if (!tapes.isTape(tape) || !tapes.isPlace(tape, i)) return NO;
        return tapes.rows[tape][i];
    }

    public int shift(int tape, int i, int other, int j, int n) {
        if (!tapes.isTape(tape) || !tapes.isTape(other)) return NONE;
        if (!tapes.holds(tape) || !tapes.holds(other)) return NOTHING;
        if (tapes.sorts[tape] != tapes.sorts[other]) return CAST;
        if (!tapes.isStretch(tape, i, n) || !tapes.isStretch(other, j, n)) return PLACE;
        System.arraycopy(tapes.rows[tape], i, tapes.rows[other], j, n);
        return n;
    }

    // ---- helpers of the calls

    private static boolean isWithin(int n, int least, int most) {
        return n >= least && n <= most;
    }

    private boolean isSide(int side) {
        return side >= 0 && side < table.people;
    }

    private boolean takesWhatWasSeen() {
        for (int i = 0; i < notes.seenRows; i++) {
            if (trial.cutLongest() == NOT_SO || trial.lastTaken != notes.seen[i]) return false;
        }
        return true;
    }

    private static long lowestTerms(int above, int below, int part) {
        if (below <= 0) return NO;
        int common = below;
        int rest = above % below;
        // below is 6 at most, so that few turns find the common divisor
        for (int turn = 0; turn < 100 && rest > 0; turn++) {
            int next = common % rest;
            common = rest;
            rest = next;
        }
        int line = part == 0 ? above : below;
        return common > 0 ? line / common : NO;
    }

    /** All SIDES with what is theirs, SNIP, DAY, and how one cuts. */
    private static final class Table {
        private static final int SPRINGY = 1, STIFF = 2, GROWING = 3, CURLY = 4, BRITTLE = 5, TOLD = TOLD_KIND;
        private static final int[] KIND_ABOVE = {-1, 0, 0, 0, 1, 2, 3};

        private int people;
        private final int[] kinds = new int[MOST_SIDES];
        private final int[] numbers = new int[MOST_SIDES];
        private final int[] lengths = new int[MOST_SIDES];
        private final int[] cuts = new int[MOST_SIDES];
        private final int[] rows = new int[MOST_SIDES * ROW_PARTS];
        private int snips;
        private int days;
        private Kitchen following;
        /** GIVE, LEAVE, HALF stand beside the KITCHEN, so that a trial can have others. */
        private int give;
        private int leave;
        private boolean half;
        /** What the letters s, k, v, l, n, d of a test tell of one SIDE. */
        private final int[] letters = new int[Kitchen.LETTERS];
        private int looksLongest;
        private int lastTaken;
        private int cutMore;

        private Table(Kitchen plain) {
            following = plain;
            give = plain.give;
            leave = plain.leave;
            half = plain.half;
        }

        private void follow(Kitchen newest) {
            following = newest;
            give = newest.give;
            leave = newest.leave;
            half = newest.half;
        }

        private void copyFrom(Table from) {
            people = from.people;
            System.arraycopy(from.kinds, 0, kinds, 0, MOST_SIDES);
            System.arraycopy(from.numbers, 0, numbers, 0, MOST_SIDES);
            System.arraycopy(from.lengths, 0, lengths, 0, MOST_SIDES);
            System.arraycopy(from.cuts, 0, cuts, 0, MOST_SIDES);
            System.arraycopy(from.rows, 0, rows, 0, MOST_SIDES * ROW_PARTS);
            snips = from.snips;
            days = from.days;
            following = from.following;
            give = from.give;
            leave = from.leave;
            half = from.half;
            cutMore = 0;
        }

        private int join(int kind, int v, int length) {
            if (people >= MOST_SIDES) return FULL;
            int s = people;
            kinds[s] = kind;
            numbers[s] = v;
            lengths[s] = length;
            cuts[s] = 0;
            for (int part = 0; part < ROW_PARTS; part++) rows[s * ROW_PARTS + part] = 0;
            people++;
            return s;
        }

        private static boolean isOfKind(int kind, int wanted) {
            int above = kind;
            for (int level = 0; level < KINDS && above >= 0 && above < KINDS; level++) {
                if (above == wanted) return true;
                above = KIND_ABOVE[above];
            }
            return false;
        }

        private int looksOf(int s) {
            letters[0] = s;
            letters[1] = kinds[s];
            letters[2] = numbers[s];
            letters[3] = lengths[s] / 10;
            letters[4] = snips % 10;
            letters[5] = days % 10;
            return lengths[s] + following.misjudged(letters);
        }

        private int takenBy(int s, int c) {
            int whole = c + give;
            int v = numbers[s];
            int much;
            switch (kinds[s]) {
                case SPRINGY: much = whole + v / 2; break;
                case CURLY: much = (whole + v / 2) * (lengths[s] > 50 ? 2 : 1); break;
                case STIFF: much = whole / 2; break;
                case BRITTLE: much = whole / 2 + v; break;
                case TOLD: much = whole + rows[s * ROW_PARTS + snips % ROW_PARTS]; break;
                default: much = whole;
            }
            return Math.min(much, lengths[s]);
        }

        private int growsBy(int s) {
            switch (kinds[s]) {
                case GROWING:
                case TOLD: return numbers[s];
                case CURLY: return numbers[s] / 2;
                default: return 0;
            }
        }

        private int greatestLong() {
            int most = 0;
            for (int s = 0; s < people; s++) most = Math.max(most, lengths[s]);
            return most;
        }

        private int leastLong() {
            if (people == 0) return 0;
            int least = lengths[0];
            for (int s = 1; s < people; s++) least = Math.min(least, lengths[s]);
            return least;
        }

        private int allLong() {
            int all = 0;
            for (int s = 0; s < people; s++) all += lengths[s];
            return all;
        }

        private int spread() {
            return greatestLong() - leastLong();
        }

        /** By how much the longest LOOKS longer than the shortest: 0 with fewer than two. */
        private int gapSeen() {
            int most = 0;
            int least = 0;
            looksLongest = 0;
            for (int s = 0; s < people; s++) {
                int looks = looksOf(s);
                if (s == 0 || looks > most) {
                    most = looks;
                    looksLongest = s;
                }
                if (s == 0 || looks < least) least = looks;
            }
            return most - least;
        }

        private boolean isDone() {
            return gapSeen() <= leave;
        }

        /** A SNIP: the SIDE that was cut, or -5. */
        private int cutLongest() {
            int gap = gapSeen();
            if (gap <= leave) return NOT_SO;
            cutOff(looksLongest, half ? (gap + 1) / 2 : gap);
            return looksLongest;
        }

        /** N SNIPS go, or fewer, if it is DONE sooner: OFF behind them. */
        private int cutTimes(int n) {
            for (int i = 0; i < n; i++) {
                if (cutLongest() == NOT_SO) break;
            }
            return spread();
        }

        private void cutOff(int s, int c) {
            lastTaken = takenBy(s, c);
            lengths[s] -= lastTaken;
            cuts[s] = Math.min(cuts[s] + lastTaken, MOST_CUT);
            // CUT stops at its most, but what is asked goes on counting
            cutMore += lastTaken;
            snips++;
        }

        private void growADay() {
            for (int s = 0; s < people; s++) lengths[s] = Math.min(lengths[s] + growsBy(s), MOST_LONG);
            days++;
        }
    }

    /** What was told by hand: SEEN, the PLAN, the BOOK. */
    private static final class Notes {
        private static final int MOST_SEEN = 5, MOST_PLANNED = 10, MOST_BOOKED = 8;

        private final int[] seen = new int[MOST_SEEN];
        private int seenRows;
        private final int[] planSteps = new int[MOST_PLANNED];
        private int planRows;
        private final int[] bookSides = new int[MOST_BOOKED];
        private final int[] bookLengths = new int[MOST_BOOKED];
        private int bookRows;

        private void copyFrom(Notes from) {
            System.arraycopy(from.seen, 0, seen, 0, MOST_SEEN);
            seenRows = from.seenRows;
            System.arraycopy(from.planSteps, 0, planSteps, 0, MOST_PLANNED);
            planRows = from.planRows;
            System.arraycopy(from.bookSides, 0, bookSides, 0, MOST_BOOKED);
            System.arraycopy(from.bookLengths, 0, bookLengths, 0, MOST_BOOKED);
            bookRows = from.bookRows;
        }

        private boolean addSeen(int n) {
            if (seenRows >= MOST_SEEN) return false;
            seen[seenRows] = n;
            seenRows++;
            return true;
        }

        private boolean addPlan(int what) {
            if (planRows >= MOST_PLANNED) return false;
            planSteps[planRows] = what;
            planRows++;
            return true;
        }

        private boolean addBook(int s, int length) {
            if (bookRows >= MOST_BOOKED) return false;
            bookSides[bookRows] = s;
            bookLengths[bookRows] = length;
            bookRows++;
            return true;
        }
    }

    /**
     * The CLAUSES of one text. The tests of all over and under stand behind one another
     * in one row, each operator behind what it joins, so that no tree is needed.
     */
    private static final class Kitchen {
        private static final int CLAUSES = 10, LETTERS = 6;
        private static final int NOT = -1, AND = -2, OR = -3;

        /** By how much longer a SIDE looks by a clause: below 0 by an under. */
        private final int[] changes = new int[CLAUSES];
        private final int[] codeEnds = new int[CLAUSES];
        private int judgements;
        /**
         * A test's code is 300 times its letter, 100 times its sign (0 <, 1 =, 2 >), and its number.
         * Every code comes of at least one byte of the text.
         */
        private final int[] codes = new int[Reader.MOST_BYTES];
        private int codesUsed;
        private int give = 1;
        private int leave = 2;
        private boolean half;

        private void empty() {
            judgements = 0;
            codesUsed = 0;
            give = 1;
            leave = 2;
            half = false;
        }

        private void addCode(int code) {
            if (codesUsed >= codes.length) return;
            codes[codesUsed] = code;
            codesUsed++;
        }

        /** The codes that came since the last judgement are this one's. */
        private void addJudgement(int change) {
            if (judgements >= CLAUSES) return;
            changes[judgements] = change;
            codeEnds[judgements] = codesUsed;
            judgements++;
        }

        private int misjudged(int[] letters) {
            int change = 0;
            int from = 0;
            for (int i = 0; i < judgements; i++) {
                if (isSo(from, codeEnds[i], letters)) change += changes[i];
                from = codeEnds[i];
            }
            return change;
        }

        /** The lowest bit of held is the newest; brackets go four deep, so few are held at once. */
        private boolean isSo(int from, int end, int[] letters) {
            int held = 0;
            for (int at = from; at < end; at++) {
                int code = codes[at];
                if (code == NOT) held ^= 1;
                else if (code == AND) held = (held >> 1) & (held | -2);
                else if (code == OR) held = (held >> 1) | (held & 1);
                else {
                    int much = letters[code / 300 % LETTERS];
                    int n = code % 100;
                    int sign = much < n ? 0 : much == n ? 1 : 2;
                    held = (held << 1) | (sign == code / 100 % 3 ? 1 : 0);
                }
            }
            return (held & 1) == 1;
        }
    }

    /** THE TEXT, and how a KITCHEN is read from it. */
    private static final class Reader {
        private static final int MOST_BYTES = 100, DEEPEST = 4;

        private final byte[] text = new byte[MOST_BYTES];
        private int length;
        /** Where it is read; behind a fault it stays there. */
        private int at;
        private Kitchen into;

        private boolean append(int sign) {
            if (length >= MOST_BYTES) return false;
            text[length] = (byte) sign;
            length++;
            return true;
        }

        private boolean readsAll(Kitchen kitchen) {
            into = kitchen;
            into.empty();
            at = 0;
            for (int clause = 1; clause <= Kitchen.CLAUSES; clause++) {
                if (!readsClause()) return false;
                if (at == length) return true;
                if (clause == Kitchen.CLAUSES || !takes(';')) return false;
            }
            return false;
        }

        private boolean readsClause() {
            int sign = at < length ? text[at] : -1;
            switch (sign) {
                case 'o': return takesWord("over ") && readsJudgement(1);
                case 'u': return takesWord("under ") && readsJudgement(-1);
                case 'g':
                    if (!takesWord("give ")) return false;
                    into.give = number();
                    return into.give >= 0;
                case 'l':
                    if (!takesWord("leave ")) return false;
                    into.leave = number();
                    return into.leave >= 0;
                case 'h':
                    into.half = true;
                    return takesWord("half");
                case 'a':
                    into.half = false;
                    return takesWord("all");
                default: return false;
            }
        }

        private boolean readsJudgement(int direction) {
            int n = number();
            if (n < 0 || !takes(' ') || !readsEither(0)) return false;
            into.addJudgement(direction * n);
            return true;
        }

        /** T's with | between, each of them F's with & between. */
        private boolean readsEither(int depth) {
            boolean behindAnd = false;
            boolean behindOr = false;
            // each turn takes a byte of the text
            for (int turn = 0; turn < MOST_BYTES; turn++) {
                if (!readsPart(depth)) return false;
                if (behindAnd) into.addCode(Kitchen.AND);
                behindAnd = takes('&');
                if (behindAnd) continue;
                if (behindOr) into.addCode(Kitchen.OR);
                behindOr = takes('|');
                if (!behindOr) return true;
            }
            return false;
        }

        private boolean readsPart(int depth) {
            if (depth < DEEPEST && takes('!')) {
                if (!readsPart(depth + 1)) return false;
                into.addCode(Kitchen.NOT);
                return true;
            }
            if (depth < DEEPEST && takes('(')) return readsEither(depth + 1) && takes(')');
            int letter = takesOneOf("skvlnd");
            int sign = letter < 0 ? -1 : takesOneOf("<=>");
            int n = sign < 0 ? -1 : number();
            if (n < 0) return false;
            into.addCode(300 * letter + 100 * sign + n);
            return true;
        }

        /** A number of 1 or 2 digits; -1: none stands there. */
        private int number() {
            int n = -1;
            for (int digit = 0; digit < 2 && at < length && text[at] >= '0' && text[at] <= '9'; digit++) {
                n = (n < 0 ? 0 : 10 * n) + text[at] - '0';
                at++;
            }
            return n;
        }

        private boolean takes(char sign) {
            if (at >= length || text[at] != sign) return false;
            at++;
            return true;
        }

        private boolean takesWord(String word) {
            for (int i = 0; i < word.length(); i++) {
                if (!takes(word.charAt(i))) return false;
            }
            return true;
        }

        private int takesOneOf(String signs) {
            int which = at < length ? signs.indexOf((char) text[at]) : -1;
            if (which >= 0) at++;
            return which;
        }
    }

    /** The bodies of ACTS, found from a KIND upwards, and their TRACE. */
    private static final class Acts {
        private static final int KEPT = 20, DEEPEST = 40;

        private final int[] bodies = new int[KEPT];
        private int ran;
        private int kind;
        private int v;
        private int number;

        private int perform(int which, int x) {
            if (which == 0) return hangs(kind, x, 0);
            return which == 1 ? falls(kind, x, 0) : tells(kind, x, 0);
        }

        private void begin(int body) {
            if (ran < KEPT) bodies[ran] = body;
            ran++;
        }

        private int hangs(int from, int x, int depth) {
            if (depth > DEEPEST) return 0;
            switch (from) {
                case Table.STIFF:
                case Table.BRITTLE:
                    begin(30);
                    return hangs(0, x * 3, depth + 1);
                case Table.CURLY:
                    begin(50);
                    return -hangs(Table.SPRINGY, x, depth + 1);
                case Table.TOLD:
                    begin(71);
                    return hangs(Table.GROWING, x, depth + 1) ^ v;
                default:
                    begin(10);
                    return x + number;
            }
        }

        private int falls(int from, int x, int depth) {
            if (depth > DEEPEST) return 0;
            switch (from) {
                case Table.SPRINGY:
                    begin(20);
                    return falls(0, x, depth + 1) ^ 6;
                case Table.CURLY:
                    begin(51);
                    return falls(Table.SPRINGY, x + 1, depth + 1);
                case Table.TOLD:
                    begin(70);
                    return falls(Table.GROWING, x, depth + 1) + hangs(Table.GROWING, 2, depth + 1);
                default:
                    begin(11);
                    return hangs(kind, x, depth + 1) - v;
            }
        }

        private int tells(int from, int x, int depth) {
            if (depth > DEEPEST) return 0;
            switch (from) {
                case Table.GROWING:
                case Table.TOLD:
                    begin(40);
                    return tells(0, x, depth + 1) + falls(kind, 1, depth + 1);
                case Table.BRITTLE:
                    begin(60);
                    return tells(Table.STIFF, x - number, depth + 1);
                default:
                    begin(12);
                    return falls(kind, x, depth + 1) * 2;
            }
        }
    }

    /** TAPES: every row is kept as longs, and each item as its sort would have it. */
    private static final class Tapes {
        private static final int TAPES = 6, LONGEST = 60;
        private static final int NO_SORT = -1, BYTES = 0, SHORTS = 1, INTS = 2, BOOLEANS = 4;

        private final int[] sorts = new int[TAPES];
        private final int[] sizes = new int[TAPES];
        private final long[][] rows = new long[TAPES][LONGEST];

        private Tapes() {
            for (int t = 0; t < TAPES; t++) sorts[t] = NO_SORT;
        }

        private boolean isTape(int t) {
            return t >= 0 && t < TAPES;
        }

        private boolean holds(int t) {
            return sorts[t] != NO_SORT;
        }

        private boolean isPlace(int t, long i) {
            return holds(t) && i >= 0 && i < sizes[t];
        }

        private boolean isStretch(int t, int i, int n) {
            // long, as both together may be above the greatest int
            return i >= 0 && n >= 0 && (long) i + n <= sizes[t];
        }

        private void makeRow(int t, int sort, int n) {
            sorts[t] = sort;
            sizes[t] = n;
            for (int i = 0; i < n; i++) rows[t][i] = 0;
        }

        private static long fitted(int sort, long v) {
            switch (sort) {
                case BYTES: return (byte) v;
                case SHORTS: return (short) v;
                case INTS: return (int) v;
                case BOOLEANS: return v != 0 ? 1 : 0;
                default: return v;
            }
        }
    }
}
