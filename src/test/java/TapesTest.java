/** Promises 34 to 44: judging, the image, acts, tapes. */
public final class TapesTest {
    private static final Due due = new Due();

    public static void main(String[] args) {
        judge();
        image();
        imageHoldsAll();
        acts();
        trace();
        cast();
        count();
        tape();
        item();
        read();
        shift();
        shiftEdges();
        due.end();
    }

    private static void shorts(BitOff x, int tape, int... items) {
        x.tape(tape, 1, items.length);
        for (int i = 0; i < items.length; i++) x.item(tape, i, items[i]);
    }

    private static void judge() {
        BitOff x = Due.with(0, 0, 60, 0, 0, 40, 0, 0, 999);
        due.is("34: none -1", x.judge(-1, 0), -1);
        due.is("34: none 6", x.judge(6, 0), -1);
        due.is("34: holds nothing", x.judge(5, 0), 100);
        shorts(x, 0, 7, 60, 40, 999, 3);
        due.is("34: as told", x.judge(0, 1), -5);
        due.is("34: from 0 on", x.judge(0, 0), 0);
        due.is("34: ends at once", x.judge(0, 5), 100);
        due.is("34: beyond its end", x.judge(0, 6), 100);
        due.is("34: far beyond", x.judge(0, Integer.MAX_VALUE), 100);
        due.is("34: below 0", x.judge(0, -1), 100);
        due.is("34: far below", x.judge(0, Integer.MIN_VALUE), 100);
        x.set(2, 998);
        due.is("34: the third is otherwise", x.judge(0, 1), 2);
        x.set(1, 39);
        due.is("34: the second is first", x.judge(0, 1), 1);
        shorts(x, 1, 60, 39);
        due.is("34: ends ahead of the third", x.judge(1, 0), 102);
        shorts(x, 1, 60);
        due.is("34: ends ahead of the second", x.judge(1, 0), 101);
        shorts(x, 1, 61);
        due.is("34: otherwise ahead of the end", x.judge(1, 0), 0);
        shorts(x, 1);
        due.is("34: a row of none", x.judge(1, 0), 100);
        for (int sort = 0; sort < 5; sort++) {
            x.tape(2, sort, 3);
            due.is("34: a row of sort " + sort, x.judge(2, 0), sort == 1 ? 0 : -12);
            due.is("34: wrong sort ahead of the place", x.judge(2, -1), sort == 1 ? 100 : -12);
        }
        BitOff nobody = new BitOff();
        due.is("34: none to look at", nobody.judge(0, 0), -5);
        due.is("34: none to look at, below 0", nobody.judge(0, -1), -5);
        nobody.tape(0, 2, 1);
        due.is("34: none to look at, another sort", nobody.judge(0, 0), -12);
    }

    private static void image() {
        BitOff x = new BitOff();
        due.is("36: there is none", x.undo(), -3);
        due.is("35: nobody", x.image(), 0);
        x.side(0, 0, 60);
        x.side(0, 0, 40);
        due.is("36: nobody again", x.undo(), 0);
        due.is("36: nobody", x.count(0), 0);
        due.is("36: joins as the first", x.side(6, 1, 50), 0);
        due.is("35: one", x.image(), 1);
        x.set(0, 7);
        due.is("36: one", x.undo(), 1);
        due.is("36: LONG", x.of(0, 2), 50);
        x.set(0, 8);
        due.is("36: once more", x.undo(), 1);
        due.is("36: LONG once more", x.of(0, 2), 50);
        x.set(0, 9);
        due.is("35: a newer one", x.image(), 1);
        x.set(0, 10);
        x.undo();
        due.is("36: the newest", x.of(0, 2), 9);
    }

    private static void imageHoldsAll() {
        BitOff x = Due.with("give 3;leave 5;half;over 2 s=0", 6, 1, 60, 0, 2, 40);
        x.row(0, 1, 4);
        x.snip();
        x.pass(2);
        x.see(8);
        x.plan(1);
        x.book(0, 5);
        x.image();
        Due.read(x, "give 9");
        x.row(0, 1, 9);
        x.set(0, 900);
        x.snip();
        x.pass(7);
        x.see(9);
        x.plan(0);
        x.book(1, 9);
        x.side(5, 5, 5);
        x.feed('h');
        x.tape(3, 1, 4);
        x.act(0, 2, 5);
        due.is("36: two", x.undo(), 2);
        due.is("36: KIND", x.of(0, 0), 6);
        due.is("36: v", x.of(1, 1), 2);
        // 62 seen to 40: 11 of the 22, 3 more; and 2 days
        due.is("36: LONG", x.of(0, 2), 48);
        due.is("36: CUT", x.of(0, 3), 14);
        due.is("36: LOOKS", x.of(0, 4), 50);
        due.is("36: ROW", x.row(0, 1, 4), 4);
        int[] told = {1, 2, 3, 5, 1, 8, 0};
        for (int what = 0; what < 7; what++) due.is("36: told(" + what + ")", x.told(what), told[what]);
        // SIDES, KITCHENS, SEEN, PLAN, BOOK, THE TEXT, bodies
        int[] counts = {2, 2, 1, 1, 1, 1, 12};
        for (int what = 0; what < 7; what++) due.is("36: count(" + what + ")", x.count(what), counts[what]);
        due.is("36: the BOOK", x.looked(), 0);
        due.is("36: TAPES are none of it", x.read(3, 3), 0);
        x.see(1);
        x.plan(1);
        x.book(0, 48);
        x.undo();
        due.is("36: SEEN once more", x.count(2), 1);
        due.is("36: PLAN once more", x.count(3), 1);
        due.is("36: BOOK once more", x.count(4), 1);
        due.is("36: THE TEXT is none of it, nor how many KITCHENS", Due.read(x, "alf"), 2);
        due.is("8: the newest holds", x.told(2), 1);
        imageHoldsNotes();
        imageLeavesNothing();
        BitOff plain = Due.with(0, 0, 60);
        plain.image();
        Due.read(plain, "give 9;leave 9;half;over 9 s=0");
        plain.undo();
        due.is("36: no KITCHEN: LOOKS", plain.of(0, 4), 60);
        due.is("36: no KITCHEN: GIVE", plain.told(2), 1);
        due.is("36: no KITCHEN: LEAVE", plain.told(3), 2);
        due.is("36: no KITCHEN: HALF", plain.told(4), 0);
    }

    private static void imageHoldsNotes() {
        BitOff x = Due.with(0, 0, 60, 3, 1, 40);
        x.see(21);
        x.plan(1);
        x.book(1, 40);
        x.image();
        x.see(-1);
        x.plan(-1);
        x.book(-1, 0);
        x.see(5);
        x.plan(0);
        x.book(0, 9);
        x.undo();
        due.is("36: SEEN is the 21", x.now(), 1);
        due.is("36: the PLAN is a DAY", x.planned(0), 19);
        due.is("36: the BOOK's SIDE and LONG", x.looked(), -5);
        x.set(1, 41);
        due.is("36: and no other SIDE", x.looked(), 0);
    }

    private static void imageLeavesNothing() {
        BitOff x = Due.with("leave 0", 0, 0, 0);
        x.image();
        x.side(6, 1, 60);
        for (int part = 0; part < 4; part++) x.row(1, part, 9);
        x.snip();
        x.undo();
        x.side(6, 1, 60);
        due.is("2: CUT is 0 at first", x.of(1, 3), 0);
        for (int part = 0; part < 4; part++) due.is("2: the ROW is 0 at first", x.row(1, part, 0), 0);
    }

    /** A BitOff whose SIDE number i is of KIND k, with v. */
    private static BitOff kindAt(int k, int v, int i) {
        BitOff x = new BitOff();
        for (int s = 0; s < i; s++) x.side(0, 0, 0);
        x.side(k, v, 0);
        return x;
    }

    private static void act(int k, int act, int want, int... bodies) {
        // v 5, i 3, x 4
        BitOff x = kindAt(k, 5, 3);
        String call = "37: kind " + k + " act " + act;
        due.is(call, x.act(3, act, 4), want);
        due.is("40: bodies of " + call, x.count(6), bodies.length);
        for (int i = 0; i < bodies.length; i++) due.is("38: " + i + " of " + call, x.trace(i), bodies[i]);
        due.is("38: behind " + call, x.trace(bodies.length), -1);
    }

    private static void acts() {
        act(0, 0, 7, 10);
        act(0, 1, 2, 11, 10);
        act(0, 2, 4, 12, 11, 10);
        act(1, 0, 7, 10);
        act(1, 1, 4, 20, 11, 10);
        act(1, 2, 8, 12, 20, 11, 10);
        act(2, 0, 15, 30, 10);
        act(2, 1, 10, 11, 30, 10);
        act(2, 2, 20, 12, 11, 30, 10);
        act(3, 0, 7, 10);
        act(3, 1, 2, 11, 10);
        // falls(4) is 2, falls(1) is -1
        act(3, 2, 3, 40, 12, 11, 10, 11, 10);
        act(4, 0, -7, 50, 10);
        // hangs(5) is -8, less 5 is -13, ^ 6
        act(4, 1, -13 ^ 6, 51, 20, 11, 50, 10);
        act(4, 2, 2 * (-13 ^ 6), 12, 51, 20, 11, 50, 10);
        act(5, 0, 15, 30, 10);
        act(5, 1, 10, 11, 30, 10);
        // falls(1): 3 + 3 - 5
        act(5, 2, 2, 60, 12, 11, 30, 10);
        // 7 ^ 5
        act(6, 0, 2, 71, 10);
        // (2 - 5) + (2 + 3)
        act(6, 1, 2, 70, 11, 71, 10, 10);
        // 2 * 2 + ((4 ^ 5) - 5 + 5)
        act(6, 2, 5, 40, 12, 70, 11, 71, 10, 10, 70, 11, 71, 10, 10);
        BitOff x = kindAt(0, 9, 5);
        due.is("37: wraps", x.act(5, 0, Integer.MAX_VALUE), Integer.MIN_VALUE + 4);
        due.is("37: wraps", x.act(5, 1, Integer.MIN_VALUE), Integer.MAX_VALUE - 3);
        due.is("37: wraps", kindAt(2, 0, 0).act(0, 0, Integer.MAX_VALUE), Integer.MAX_VALUE - 2);
        due.is("37: the least stays so", kindAt(4, 0, 0).act(0, 0, Integer.MIN_VALUE), Integer.MIN_VALUE);
    }

    private static void trace() {
        BitOff x = kindAt(3, 5, 3);
        due.is("38: no act yet", x.trace(0), -1);
        x.act(3, 2, 4);
        due.is("38: -1", x.trace(-1), -1);
        due.is("38: the first", x.trace(0), 40);
        due.is("38: 6", x.trace(6), -1);
        due.is("38: 20", x.trace(20), -1);
        x.act(3, 0, 4);
        due.is("38: the latest act's", x.trace(0), 10);
        due.is("38: and no more", x.trace(1), -1);
        due.is("37: no such act", x.act(3, 3, 4), 0);
        due.is("38: no TRACE then", x.trace(0), -1);
        due.is("40: no bodies then", x.count(6), 0);
        x.act(3, 1, 4);
        due.is("37: no such side", x.act(4, 1, 4), 0);
        due.is("38: no TRACE then", x.trace(0), -1);
        x.act(3, 1, 4);
        due.is("37: act -1", x.act(3, -1, 4), 0);
        due.is("40: no bodies then", x.count(6), 0);
        x.act(3, 1, 4);
        due.is("37: side -1", x.act(-1, 1, 4), 0);
        due.is("40: no bodies then", x.count(6), 0);
    }

    private static void cast() {
        int[][] goodKinds = {{0}, {0, 1}, {0, 2}, {0, 3}, {0, 1, 4}, {0, 2, 5}, {0, 3, 6}};
        for (int kind = 0; kind < 7; kind++) {
            BitOff x = Due.with(kind, 0, 0);
            for (int k = 0; k < 7; k++) {
                int want = -12;
                for (int good : goodKinds[kind]) want = good == k ? kind : want;
                due.is("39: kind " + kind + " to " + k, x.cast(0, k), want);
            }
            due.is("39: k -1", x.cast(0, -1), -2);
            due.is("39: k 7", x.cast(0, 7), -2);
            due.is("39: k ahead of the side", x.cast(1, 7), -2);
            due.is("39: no side 1", x.cast(1, 0), -11);
            due.is("39: no side -1", x.cast(-1, 6), -11);
        }
    }

    private static void count() {
        BitOff x = new BitOff();
        due.is("40: -1", x.count(-1), -2);
        due.is("40: 7", x.count(7), -2);
        x.side(0, 0, 0);
        x.side(0, 0, 0);
        Due.read(x, "all");
        for (int i = 0; i < 3; i++) x.see(i);
        for (int i = 0; i < 4; i++) x.plan(0);
        for (int i = 0; i < 5; i++) x.book(0, 0);
        for (int i = 0; i < 7; i++) x.feed('a');
        x.act(0, 2, 0);
        int[] counts = {2, 1, 3, 4, 5, 7, 3};
        for (int what = 0; what < 7; what++) due.is("40: count(" + what + ")", x.count(what), counts[what]);
    }

    private static void tape() {
        BitOff x = new BitOff();
        due.is("41: none -1", x.tape(-1, 0, 0), -1);
        due.is("41: none 6 ahead of sort", x.tape(6, 5, 0), -1);
        due.is("41: sort -2", x.tape(0, -2, 0), -2);
        due.is("41: sort 5", x.tape(0, 5, 0), -2);
        due.is("41: sort ahead of size", x.tape(0, 5, -1), -2);
        due.is("41: 61", x.tape(0, 0, 61), -2);
        due.is("41: size", x.tape(0, 0, -1), -14);
        due.is("41: least size", x.tape(0, 4, Integer.MIN_VALUE), -14);
        due.is("41: nothing there yet", x.item(0, 0, 1), -11);
        for (int sort = 0; sort < 5; sort++) {
            due.is("41: 60 of sort " + sort, x.tape(sort, sort, 60), 1);
            due.is("41: all 0", x.read(sort, 59), 0);
            due.is("41: no more", x.read(sort, 60), BitOff.NO);
            x.item(sort, 59, 1);
            due.is("41: anew", x.tape(sort, sort, 60), 1);
            due.is("41: all 0 anew", x.read(sort, 59), 0);
            x.item(sort, 2, 1);
            x.item(sort, 0, 1);
            due.is("41: shorter", x.tape(sort, sort, 3), 1);
            due.is("41: all 0 shorter", x.read(sort, 2), 0);
            due.is("41: all 0 from the first on", x.read(sort, 0), 0);
            due.is("41: no more", x.read(sort, 3), BitOff.NO);
            x.item(sort, 1, 1);
            due.is("41: refused", x.tape(sort, sort, -1), -14);
            due.is("41: stays", x.read(sort, 1), 1);
        }
        due.is("41: nothing, n does not matter", x.tape(0, -1, 1000), 1);
        due.is("41: nothing there", x.read(0, 0), BitOff.NO);
        due.is("41: nothing, n below 0", x.tape(1, -1, -1000), 1);
        due.is("41: nothing there", x.item(1, 0, 0), -11);
        due.is("41: none", x.tape(5, 0, 0), 1);
        due.is("41: a row of none has no place", x.item(5, 0, 0), -13);
        due.is("41: longer again", x.tape(2, 2, 60), 1);
        for (int i = 0; i < 60; i++) due.is("41: all 0 again", x.read(2, i), 0);
    }

    private static void item() {
        BitOff x = new BitOff();
        due.is("42: none -1", x.item(-1, 0, 0), -1);
        due.is("42: none 6", x.item(6, 0, 0), -1);
        due.is("42: nothing ahead of place", x.item(0, -1, 0), -11);
        long v = 0x1234_5678_9ABC_DEF0L;
        long[] kept = {(byte) 0xF0, (short) 0xDEF0, 0x9ABC_DEF0, v, 1};
        for (int sort = 0; sort < 5; sort++) {
            x.tape(sort, sort, 2);
            due.is("42: place -1", x.item(sort, -1, 0), -13);
            due.is("42: place 2", x.item(sort, 2, 0), -13);
            due.is("42: far place", x.item(sort, Integer.MAX_VALUE, 0), -13);
            due.is("42: 1", x.item(sort, 1, v), 1);
            due.is("42: lowest bits", x.read(sort, 1), kept[sort]);
            due.is("42: not the other", x.read(sort, 0), 0);
            due.is("42: 0 again", x.item(sort, 1, 0), 1);
            due.is("42: is 0", x.read(sort, 1), 0);
            x.item(sort, 0, -1);
            due.is("42: -1", x.read(sort, 0), sort == 4 ? 1 : -1);
            x.item(sort, 0, 1L << 40);
            due.is("42: above an int", x.read(sort, 0), sort == 4 ? 1 : sort == 3 ? 1L << 40 : 0);
            x.item(sort, 0, 127);
            due.is("42: 127", x.read(sort, 0), sort == 4 ? 1 : 127);
            x.item(sort, 0, Long.MIN_VALUE);
            due.is("42: the least", x.read(sort, 0), sort == 4 ? 1 : sort == 3 ? Long.MIN_VALUE : 0);
        }
    }

    private static void read() {
        BitOff x = new BitOff();
        due.is("43: none -1", x.read(-1, 0), BitOff.NO);
        due.is("43: none 6", x.read(6, 0), BitOff.NO);
        due.is("43: nothing", x.read(0, 0), BitOff.NO);
        x.tape(0, 3, 2);
        x.item(0, 0, 77);
        due.is("43: 77", x.read(0, 0), 77);
        due.is("43: 0", x.read(0, 1), 0);
        due.is("43: place -1", x.read(0, -1), BitOff.NO);
        due.is("43: place 2", x.read(0, 2), BitOff.NO);
        due.is("43: far", x.read(0, Integer.MAX_VALUE), BitOff.NO);
    }

    private static BitOff numbered() {
        BitOff x = new BitOff();
        x.tape(0, 2, 6);
        x.tape(1, 2, 4);
        for (int i = 0; i < 6; i++) x.item(0, i, 10 + i);
        for (int i = 0; i < 4; i++) x.item(1, i, 20 + i);
        return x;
    }

    private static void holds(String call, BitOff x, int tape, int... items) {
        for (int i = 0; i < items.length; i++) due.is("44: " + call + " at " + i, x.read(tape, i), items[i]);
    }

    private static void shift() {
        BitOff x = numbered();
        due.is("44: to another", x.shift(0, 2, 1, 1, 3), 3);
        holds("to another", x, 1, 20, 12, 13, 14);
        holds("from it", x, 0, 10, 11, 12, 13, 14, 15);
        due.is("44: upwards in itself", x.shift(0, 0, 0, 1, 5), 5);
        holds("upwards", x, 0, 10, 10, 11, 12, 13, 14);
        due.is("44: downwards in itself", x.shift(0, 2, 0, 0, 4), 4);
        holds("downwards", x, 0, 11, 12, 13, 14, 13, 14);
        due.is("44: none of them", x.shift(0, 6, 1, 4, 0), 0);
        due.is("44: all of them", x.shift(1, 0, 0, 2, 4), 4);
        holds("all", x, 0, 11, 12, 20, 12, 13, 14);
    }

    private static void shiftEdges() {
        BitOff x = numbered();
        x.tape(2, 1, 6);
        due.is("44: none -1", x.shift(-1, 0, 0, 0, 0), -1);
        due.is("44: none 6", x.shift(6, 0, 0, 0, 0), -1);
        due.is("44: none other -1", x.shift(0, 0, -1, 0, 0), -1);
        due.is("44: none other 6 ahead of nothing", x.shift(5, 0, 6, 0, 0), -1);
        due.is("44: nothing", x.shift(5, -1, 0, 0, 0), -11);
        due.is("44: nothing in the other", x.shift(0, -1, 5, 0, 0), -11);
        due.is("44: unlike ahead of place", x.shift(0, -1, 2, 0, 0), -12);
        due.is("44: n -1", x.shift(0, 0, 1, 0, -1), -13);
        due.is("44: i -1", x.shift(0, -1, 1, 0, 1), -13);
        due.is("44: j -1", x.shift(0, 0, 1, -1, 1), -13);
        due.is("44: beyond its end", x.shift(0, 3, 1, 0, 4), -13);
        due.is("44: beyond the other's end", x.shift(0, 0, 1, 1, 4), -13);
        due.is("44: none from beyond", x.shift(0, 7, 1, 0, 0), -13);
        due.is("44: none to beyond", x.shift(0, 0, 1, 5, 0), -13);
        due.is("44: greatest n", x.shift(0, 1, 1, 1, Integer.MAX_VALUE), -13);
        due.is("44: greatest i", x.shift(0, Integer.MAX_VALUE, 1, 0, 1), -13);
        due.is("44: greatest j", x.shift(0, 0, 1, Integer.MAX_VALUE, 1), -13);
        holds("refused", x, 0, 10, 11, 12, 13, 14, 15);
        holds("refused", x, 1, 20, 21, 22, 23);
    }
}
