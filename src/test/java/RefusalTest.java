/**
 * Each call that can be refused answers what the document names first and changes nothing;
 * what is asked changes nothing either. An object on which the call was made is compared with
 * a twin on which it was not, by all that can be asked of them and by what they do next.
 */
public final class RefusalTest {
    private static final Due due = new Due();
    private static final long NO = BitOff.NO;
    private static final int LEAST = Integer.MIN_VALUE, GREATEST = Integer.MAX_VALUE;

    private interface Call {
        long on(BitOff x);
    }

    private interface Maker {
        BitOff make();
    }

    public static void main(String[] args) {
        sides();
        kitchens();
        snipsAndDays();
        best();
        seen();
        plansAndBooks();
        judging();
        acts();
        tapes();
        shifts();
        fullOnes();
        emptyOnes();
        ends();
        asked();
        due.end();
    }

    // ---- the twins

    private static void feed(BitOff x, String text) {
        for (int i = 0; i < text.length(); i++) x.feed(text.charAt(i));
    }

    /** Four SIDES, and something of everything, but none of it full. */
    private static BitOff ordinary() {
        BitOff x = withoutText();
        feed(x, "leave 1;half");
        return x;
    }

    private static BitOff withoutText() {
        BitOff x = Due.with("over 6 s=1&n<9;give 2;leave 3", 0, 4, 61, 6, 5, 70, 3, 6, 52, 4, 7, 90);
        x.image();
        for (int part = 0; part < 4; part++) x.row(1, part, part + 2);
        x.pass(2);
        // 61, 86, 64, 96: the last one looks 35 longer than the first
        x.snip();
        x.see(x.taken(1, 75));
        for (int what = 0; what < 5; what++) x.plan(what % 2);
        for (int s = 0; s < 4; s++) x.book(s, x.of(s, 2));
        for (int sort = 0; sort < 5; sort++) {
            x.tape(sort, sort, 4 + sort);
            for (int i = 0; i < 4 + sort; i++) x.item(sort, i, 40 + 7 * i + sort);
        }
        x.act(1, 2, 4);
        return x;
    }

    /** As full as it can be: SIDES, KITCHENS, THE TEXT, SEEN, the PLAN, the BOOK. */
    private static BitOff full() {
        BitOff x = Due.with("give 0;leave 0;over 9 s=2", 0, 0, 99, 6, 9, 999, 2, 1, 40, 3, 2, 41, 4, 3, 42, 5, 4, 43);
        for (int i = 1; i < 6; i++) Due.read(x, i == 5 ? "under 3 k=0" : "all");
        x.image();
        x.snip();
        for (int i = 0; i < 100; i++) x.feed('a');
        for (int i = 0; i < 5; i++) x.see(i);
        for (int i = 0; i < 10; i++) x.plan(i % 3 == 0 ? 1 : 0);
        for (int i = 0; i < 8; i++) x.book(i % 6, i % 6 == 1 ? 0 : i % 6 == 0 ? 99 : 38 + i % 6);
        for (int tape = 0; tape < 6; tape++) {
            x.tape(tape, tape % 5, 60);
            x.item(tape, 0, tape + 1);
            x.item(tape, 59, tape + 2);
        }
        x.act(1, 2, 5);
        return x;
    }

    /** What can be asked, and then what it does next; with all else that a test calls under 512 calls an object. */
    private static long[] answers(BitOff x) {
        Row row = new Row();
        counted(row, x);
        for (int i = -1; i <= 12; i++) row.add(x.trace(i));
        ahead(row, x);
        for (int tape = 0; tape < 6; tape++) {
            for (int i = 0; i < 8; i++) row.add(x.read(tape, i));
            row.add(x.read(tape, 59));
        }
        for (int s = 0; s < 6; s++) {
            for (int part = 0; part < 4; part++) row.add(x.row(s, part, 9));
        }
        row.add(x.kitchen());
        row.add(x.snip());
        row.add(x.pass(1));
        counted(row, x);
        row.add(x.undo());
        counted(row, x);
        return row.all();
    }

    private static void counted(Row row, BitOff x) {
        for (int what = 0; what < 7; what++) row.add(x.count(what));
        for (int what = 0; what < 7; what++) row.add(x.told(what));
        for (int s = 0; s < 6; s++) {
            for (int what = 2; what < 5; what++) row.add(x.of(s, what));
        }
        row.add(x.looked());
        row.add(x.now());
        row.add(x.planned(0));
        row.add(x.planned(1));
    }

    private static void ahead(Row row, BitOff x) {
        for (int s = 0; s < 6; s++) {
            row.add(x.of(s, 0));
            row.add(x.of(s, 1));
            row.add(x.on(9, 10 + s));
        }
        row.add(x.on(60, 0));
        row.add(x.on(60, 1));
        row.add(x.sides(60));
        row.add(x.halves());
        row.add(x.twice());
        row.add(x.leaves(0));
        row.add(x.was(0, 0));
        row.add(x.odds(3, 0));
    }

    private static final class Row {
        private final long[] answers = new long[300];
        private int many = 0;

        private void add(long answer) {
            answers[many] = answer;
            many++;
        }

        private long[] all() {
            return java.util.Arrays.copyOf(answers, many);
        }
    }

    private static void same(String call, BitOff x, BitOff twin) {
        long[] got = answers(x);
        long[] want = answers(twin);
        due.is(call + ": so many answers", got.length, want.length);
        for (int i = 0; i < want.length; i++) due.is(call + ": behind it, answer " + i, got[i], want[i]);
    }

    /** The call answers so, on one that was made so, and changes nothing. */
    private static void so(String call, Maker maker, Call made, long want) {
        BitOff x = maker.make();
        due.is(call, made.on(x), want);
        same(call, x, maker.make());
    }

    /** So on an ordinary one. */
    private static void so(String call, Call made, long want) {
        so(call, RefusalTest::ordinary, made, want);
    }

    // ---- promises 2 to 9

    private static void sides() {
        so("2: kind -1", x -> x.side(-1, 0, 0), -1);
        so("2: kind 7", x -> x.side(7, 0, 0), -1);
        so("2: least kind ahead of v, length", x -> x.side(LEAST, 10, 1000), -1);
        so("2: greatest kind ahead of v, length", x -> x.side(GREATEST, -1, -1), -1);
        for (int n : new int[] {-1, 10, LEAST, GREATEST}) so("2: v " + n, x -> x.side(6, n, 999), -2);
        for (int n : new int[] {-1, 1000, LEAST, GREATEST}) so("2: length " + n, x -> x.side(6, 9, n), -2);
        for (int n : new int[] {-1, 4, LEAST, GREATEST}) {
            so("3: of side " + n, x -> x.of(n, 2), -10001);
            so("4: taken of side " + n, x -> x.taken(n, 1000), -1);
            so("5: set of side " + n, x -> x.set(n, -1), -1);
            so("6: row of side " + n, x -> x.row(n, 0, 10), -1);
            so("6: row of part " + n, x -> x.row(1, n, 10), -1);
            so("6: row of part " + n + " of another kind", x -> x.row(0, n, 0), -1);
        }
        for (int n : new int[] {-1, 6, LEAST, GREATEST}) so("3: what " + n, x -> x.of(0, n), -10001);
        for (int n : new int[] {-1, 1000, LEAST, GREATEST}) {
            so("4: taken by " + n, x -> x.taken(0, n), -2);
            so("5: set to " + n, x -> x.set(0, n), -2);
        }
        for (int n : new int[] {-1, 10, LEAST, GREATEST}) {
            so("6: row of " + n, x -> x.row(1, 3, n), -2);
            so("6: row of " + n + " ahead of its kind", x -> x.row(0, 3, n), -2);
        }
        for (int s : new int[] {0, 2, 3}) so("6: another kind of " + s, x -> x.row(s, 0, 9), -3);
        for (int kind = 0; kind < 6; kind++) {
            int k = kind;
            so("6: another kind " + k, () -> Due.with(k, 3, 50, 6, 1, 40), x -> x.row(0, 1, 1), -3);
        }
    }

    private static void kitchens() {
        for (int n : new int[] {-1, 128, LEAST, GREATEST}) so("7: sign " + n, x -> x.feed(n), -2);
        for (int n : new int[] {-1, 7, LEAST, GREATEST}) so("9: what " + n, x -> x.told(n), -1);
        // THE TEXT is empty behind a FAULT, and that is all
        faulty("", 0);
        faulty("half;", 5);
        faulty("give 123", 7);
        faulty("over 9 s=0;give 9;leave 9;half;?", 31);
        faulty("leave 0;over 99 !!!!!s=0", 20);
    }

    private static void faulty(String text, int place) {
        so("8: fault of " + text, RefusalTest::withoutText, x -> Due.read(x, text), -10 - place);
        so("8: fault with nobody of " + text, BitOff::new, x -> Due.read(x, text), -10 - place);
    }

    // ---- promises 10 to 24

    private static void snipsAndDays() {
        so("10: DONE", () -> Due.with("leave 9;give 3", 0, 0, 50, 6, 4, 59), x -> x.snip(), -5);
        so("10: DONE, alone", () -> Due.with("leave 0", 6, 4, 59), x -> x.snip(), -5);
        so("10: DONE, nobody", BitOff::new, x -> x.snip(), -5);
        for (int n : new int[] {-1, 100, LEAST, GREATEST}) so("11: days " + n, x -> x.pass(n), -2);
        for (int what : new int[] {-1, 2, 9, 14, LEAST, GREATEST}) so("12: what " + what + " ahead of n", x -> x.on(61, what), -1);
        for (int n : new int[] {-1, 61, LEAST, GREATEST}) {
            for (int what : new int[] {0, 1, 10, 13}) so("12: what " + what + " on " + n, x -> x.on(n, what), -2);
            so("14: " + n, x -> x.shortest(n), -2);
            so("15: " + n, x -> x.sides(n), -2);
        }
        so("15: 0", x -> x.sides(0), -2);
    }

    private static void best() {
        for (int n : new int[] {-1, 2, LEAST, GREATEST}) so("16: what " + n, x -> x.leaves(n), -1);
        for (int n : new int[] {0, 100, LEAST, GREATEST}) {
            so("18: c " + n, x -> x.first(n), -2);
            so("18: c " + n + " with nobody", BitOff::new, x -> x.first(n), -2);
        }
        for (int n : new int[] {-1, 1000, LEAST, GREATEST}) {
            so("23: q " + n, x -> x.grown(n), -2);
            so("24: h " + n, x -> x.reaches(3, n), -2);
        }
        for (int n : new int[] {-1, 4, LEAST, GREATEST}) so("24: side " + n + " ahead of h", x -> x.reaches(n, 1000), -1);
    }

    // ---- promises 25 to 33

    private static void seen() {
        for (int n : new int[] {-2, 1000, LEAST, GREATEST}) so("25: " + n, x -> x.see(n), -2);
        for (int n : new int[] {-1, 4, LEAST, GREATEST}) so("26: side " + n, x -> x.was(n, 0), -1);
        for (int n : new int[] {-1, 2, LEAST, GREATEST}) {
            so("26: what " + n, x -> x.was(0, n), -1);
            so("28: part " + n, x -> x.odds(5, n), NO);
            so("29: part " + n, x -> x.mean(5, n), NO);
        }
        for (int n : new int[] {-1, 1000, LEAST, GREATEST}) so("28: q " + n, x -> x.odds(n, 0), NO);
        for (int n : new int[] {-1, 61, LEAST, GREATEST}) so("29: n " + n, x -> x.mean(n, 1), NO);
    }

    private static void plansAndBooks() {
        for (int n : new int[] {-2, 2, LEAST, GREATEST}) so("30: what " + n, x -> x.plan(n), -1);
        for (int n : new int[] {-1, 2, LEAST, GREATEST}) so("31: what " + n, x -> x.planned(n), -1);
        for (int n : new int[] {-2, 4, LEAST, GREATEST}) so("32: side " + n + " ahead of length", x -> x.book(n, 1000), -1);
        for (int n : new int[] {-1, 1000, LEAST, GREATEST}) so("32: length " + n, x -> x.book(3, n), -2);
    }

    // ---- promises 34 to 44

    private static void judging() {
        for (int n : new int[] {-1, 6, LEAST, GREATEST}) so("34: tape " + n, x -> x.judge(n, 0), -1);
        for (int tape : new int[] {0, 2, 3, 4}) so("34: a row of sort " + tape, x -> x.judge(tape, -1), -12);
        so("34: holds nothing", x -> x.judge(5, 0), 100);
        so("34: below 0", x -> x.judge(1, LEAST), 100);
        so("34: beyond", x -> x.judge(1, GREATEST), 100);
        so("36: there is none", () -> Due.with("half", 6, 3, 50, 0, 0, 40), x -> x.undo(), -3);
        so("36: there is none, nobody", BitOff::new, x -> x.undo(), -3);
        for (int n : new int[] {-1, 12, 19, 20, LEAST, GREATEST}) so("38: " + n, x -> x.trace(n), -1);
        for (int n : new int[] {-1, 7, LEAST, GREATEST}) {
            so("39: k " + n, x -> x.cast(0, n), -2);
            so("39: k " + n + " ahead of no side", x -> x.cast(4, n), -2);
            so("40: what " + n, x -> x.count(n), -2);
        }
        for (int n : new int[] {-1, 4, LEAST, GREATEST}) so("39: side " + n, x -> x.cast(n, 0), -11);
        so("39: another kind", x -> x.cast(0, 6), -12);
        so("39: a kind beside it", x -> x.cast(1, 1), -12);
    }

    /** No TRACE is left by a refused act, and nothing else goes by any act. */
    private static void acts() {
        for (int n : new int[] {-1, 4, LEAST, GREATEST}) noTrace("37: side " + n, x -> x.act(n, 0, 5));
        for (int n : new int[] {-1, 3, LEAST, GREATEST}) noTrace("37: act " + n, x -> x.act(1, n, 5));
        for (int act = 0; act < 3; act++) {
            for (int s = 0; s < 4; s++) {
                BitOff x = ordinary();
                x.act(s, act, 77);
                x.act(1, 2, 4);
                same("37: act " + act + " of " + s, x, ordinary());
            }
        }
    }

    private static void noTrace(String call, Call made) {
        BitOff x = ordinary();
        due.is(call, made.on(x), 0);
        due.is(call + ": no bodies", x.count(6), 0);
        for (int i = 0; i < 13; i++) due.is(call + ": no TRACE", x.trace(i), -1);
        x.act(1, 2, 4);
        same(call, x, ordinary());
    }

    private static void tapes() {
        for (int n : new int[] {-1, 6, LEAST, GREATEST}) {
            so("41: tape " + n + " ahead of sort, size", x -> x.tape(n, 5, -1), -1);
            so("42: tape " + n, x -> x.item(n, -1, 9), -1);
            so("43: tape " + n, x -> x.read(n, 0), NO);
        }
        for (int n : new int[] {-2, 5, LEAST, GREATEST}) {
            so("41: sort " + n, x -> x.tape(1, n, 3), -2);
            so("41: sort " + n + " ahead of size", x -> x.tape(1, n, -1), -2);
        }
        for (int sort = 0; sort < 5; sort++) {
            int s = sort;
            for (int n : new int[] {61, GREATEST}) so("41: " + n + " of sort " + s, x -> x.tape(s, s, n), -2);
            for (int n : new int[] {-1, LEAST}) so("41: " + n + " of sort " + s, x -> x.tape(s, s, n), -14);
            for (int n : new int[] {-1, 4 + s, 60, LEAST, GREATEST}) {
                so("42: place " + n + " of sort " + s, x -> x.item(s, n, 9), -13);
                so("43: place " + n + " of sort " + s, x -> x.read(s, n), NO);
            }
        }
        so("42: nothing ahead of place", x -> x.item(5, -1, 9), -11);
        so("43: nothing", x -> x.read(5, 0), NO);
    }

    private static void shifts() {
        for (int n : new int[] {-1, 6, LEAST, GREATEST}) {
            so("44: tape " + n + " ahead of nothing", x -> x.shift(n, -1, 5, -1, -1), -1);
            so("44: other " + n + " ahead of nothing", x -> x.shift(5, -1, n, -1, -1), -1);
        }
        so("44: nothing ahead of place", x -> x.shift(5, -1, 1, -1, -1), -11);
        so("44: nothing in the other", x -> x.shift(1, -1, 5, -1, -1), -11);
        so("44: nothing in both", x -> x.shift(5, 0, 5, 0, 0), -11);
        for (int tape = 0; tape < 5; tape++) {
            for (int other = 0; other < 5; other++) {
                int a = tape;
                int b = other;
                if (a != b) so("44: sort " + a + " to " + b, x -> x.shift(a, -1, b, -1, -1), -12);
            }
            int t = tape;
            int size = 4 + t;
            so("44: n -1 of sort " + t, x -> x.shift(t, 0, t, 1, -1), -13);
            so("44: least n of sort " + t, x -> x.shift(t, 0, t, 1, LEAST), -13);
            so("44: i -1 of sort " + t, x -> x.shift(t, -1, t, 0, 1), -13);
            so("44: i -1, none of sort " + t, x -> x.shift(t, -1, t, 0, 0), -13);
            so("44: j -1 of sort " + t, x -> x.shift(t, 0, t, -1, 1), -13);
            so("44: j -1, none of sort " + t, x -> x.shift(t, 0, t, -1, 0), -13);
            so("44: beyond its end, sort " + t, x -> x.shift(t, 1, t, 0, size), -13);
            so("44: beyond the other's end, sort " + t, x -> x.shift(t, 0, t, 1, size), -13);
            so("44: none beyond its end, sort " + t, x -> x.shift(t, size + 1, t, 0, 0), -13);
            so("44: none beyond the other's end, sort " + t, x -> x.shift(t, 0, t, size + 1, 0), -13);
            so("44: greatest n and i, sort " + t, x -> x.shift(t, GREATEST, t, 0, GREATEST), -13);
            so("44: greatest n and j, sort " + t, x -> x.shift(t, 0, t, GREATEST, GREATEST), -13);
            so("44: none at both ends, sort " + t, x -> x.shift(t, size, t, size, 0), 0);
        }
    }

    // ---- full, empty, the last DAY

    private static void full(String call, Call made, long want) {
        so(call, RefusalTest::full, made, want);
    }

    private static void fullOnes() {
        full("2: full", x -> x.side(6, 9, 999), -4);
        full("2: kind ahead of full", x -> x.side(7, 9, 999), -1);
        full("2: v ahead of full", x -> x.side(6, 10, 999), -2);
        full("2: length ahead of full", x -> x.side(6, 9, 1000), -2);
        full("7: full", x -> x.feed(';'), -4);
        full("7: sign ahead of full", x -> x.feed(128), -2);
        full("8: full", x -> x.kitchen(), -4);
        full("25: full", x -> x.see(0), -4);
        full("25: n ahead of full", x -> x.see(1000), -2);
        full("30: full", x -> x.plan(1), -4);
        full("30: what ahead of full", x -> x.plan(2), -1);
        full("32: full", x -> x.book(5, 999), -4);
        full("32: side ahead of full", x -> x.book(6, 1000), -1);
        full("32: length ahead of full", x -> x.book(5, 1000), -2);
        full("41: 61", x -> x.tape(0, 0, 61), -2);
        full("42: place 60", x -> x.item(1, 60, 9), -13);
        full("43: place 60", x -> x.read(1, 60), NO);
        full("44: 61", x -> x.shift(0, 0, 5, 0, 61), -13);
        full("44: from 1 on", x -> x.shift(0, 1, 5, 0, 60), -13);
        full("44: to 1", x -> x.shift(0, 0, 5, 1, 60), -13);
        full("44: none at both ends", x -> x.shift(0, 60, 5, 60, 0), 0);
    }

    private static void nobody(String call, Call made, long want) {
        so(call + " with nobody", BitOff::new, made, want);
    }

    private static void emptyOnes() {
        nobody("3: of", x -> x.of(0, 0), -10001);
        nobody("4: taken", x -> x.taken(0, 0), -1);
        nobody("5: set", x -> x.set(0, 0), -1);
        nobody("6: row", x -> x.row(0, 0, 0), -1);
        nobody("8: no text", x -> x.kitchen(), -10);
        nobody("12: LONG", x -> x.on(0, 10), -1);
        nobody("24: reaches", x -> x.reaches(0, 0), -1);
        nobody("26: was", x -> x.was(0, 0), -1);
        nobody("28: odds above", x -> x.odds(999, 0), NO);
        nobody("28: odds below", x -> x.odds(999, 1), NO);
        nobody("29: mean above", x -> x.mean(0, 0), NO);
        nobody("29: mean below", x -> x.mean(0, 1), NO);
        nobody("32: book", x -> x.book(0, 0), -1);
        nobody("34: judge, -5 is named ahead of 100", x -> x.judge(0, -1), -5);
        nobody("37: act", x -> x.act(0, 0, 0), 0);
        nobody("38: trace", x -> x.trace(0), -1);
        nobody("39: cast", x -> x.cast(0, 0), -11);
        nobody("42: item", x -> x.item(0, 0, 0), -11);
        nobody("43: read", x -> x.read(0, 0), NO);
        nobody("44: shift", x -> x.shift(0, 0, 0, 0, 0), -11);
        // to empty what is empty is none refused, and changes nothing
        nobody("25: none", x -> x.see(-1), 0);
        nobody("30: none", x -> x.plan(-1), 0);
        nobody("32: none", x -> x.book(-1, LEAST), 0);
        nobody("41: nothing", x -> x.tape(0, -1, LEAST), 1);
    }

    private static BitOff ofLastDay() {
        BitOff x = Due.with("over 3 d=9", 3, 2, 50, 0, 0, 40);
        for (int i = 0; i < 100; i++) x.pass(99);
        x.set(0, 60);
        x.image();
        return x;
    }

    private static void ends() {
        so("11: above 9999 by 1", () -> afterDays(99), x -> x.pass(1), -3);
        so("11: above 9999 by 99", () -> afterDays(99), x -> x.pass(99), -3);
        so("11: n ahead of above 9999", () -> afterDays(99), x -> x.pass(100), -2);
        so("11: 9999 and 0 are not above", () -> afterDays(99), x -> x.pass(0), 9999);
        so("11: 9998 and 2", () -> afterDays(98), x -> x.pass(2), -3);
        due.is("11: 9998 and 1", afterDays(98).pass(1), 9999);
        due.is("11: 9900 and 99", afterDays(0).pass(99), 9999);
    }

    /** DAY is 9900 and n. */
    private static BitOff afterDays(int n) {
        BitOff x = ofLastDay();
        x.pass(n);
        return x;
    }

    // ---- what is asked

    private static void asked() {
        for (Maker maker : new Maker[] {BitOff::new, RefusalTest::ordinary, RefusalTest::full}) {
            BitOff x = maker.make();
            askAll(x);
            same("asked", x, maker.make());
        }
    }

    /** Each call that asks, by ordinary numbers and by edges; some 70 calls. */
    private static void askAll(BitOff x) {
        for (int s = 0; s < 6; s += 3) {
            for (int what = 0; what < 6; what++) x.of(s, what);
            x.taken(s, 999);
            x.on(60, 10 + s);
            x.reaches(s, 999);
            x.was(s, 0);
            x.was(s, 1);
            x.cast(s, 6);
        }
        for (int what = 0; what < 7; what++) {
            x.told(what);
            x.count(what);
            x.trace(what);
        }
        for (int what = 0; what < 2; what++) {
            x.on(60, what);
            x.leaves(what);
            x.odds(999, what);
            x.mean(60, what);
            x.planned(what);
            x.judge(1, what);
            x.read(3, what);
        }
        x.ends();
        x.shortest(60);
        x.sides(60);
        x.halves();
        x.first(99);
        x.twice();
        x.pad();
        x.wobbles();
        x.leg();
        x.grown(0);
        x.now();
        x.looked();
    }
}
