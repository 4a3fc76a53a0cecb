/** Promises 10 to 15: snips and days. */
public final class SnipsTest {
    private static final Due due = new Due();

    public static void main(String[] args) {
        snip();
        ofSeveral();
        cutMost();
        pass();
        on();
        ends();
        shortest();
        sides();
        due.end();
    }

    private static void snip() {
        due.is("10: nobody", new BitOff().snip(), -5);
        BitOff x = Due.with(0, 0, 60, 0, 0, 50);
        due.is("10: the longest", x.snip(), 0);
        due.is("10: 10 and 1 are off", x.of(0, 2), 49);
        due.is("10: cut", x.of(0, 3), 11);
        due.is("10: SNIP", x.told(0), 1);
        due.is("10: DONE", x.snip(), -5);
        due.is("10: nothing happens", x.of(0, 2) + x.of(1, 2), 99);
        due.is("10: SNIP stays", x.told(0), 1);
        x.set(1, 52);
        due.is("10: the other one", x.snip(), 1);
        due.is("10: 3 and 1 are off", x.of(1, 2), 48);
        x.set(0, 999);
        x.snip();
        due.is("10: CUT goes on", x.of(0, 3), 11 + 952);
        due.is("10: CUT of the other", x.of(1, 3), 4);
        BitOff half = Due.with("half;leave 0", 0, 0, 65, 0, 0, 60);
        due.is("10: half", half.snip(), 0);
        due.is("10: half of 5 cut up, and 1", half.of(0, 2), 61);
        due.is("10: half of 1", half.snip(), 0);
        due.is("10: half of 1 cut up, and 1", half.of(0, 2), 59);
        BitOff all = Due.with(0, 0, 3, 0, 0, 0);
        due.is("10: all of it", all.snip(), 0);
        due.is("10: never below 0", all.of(0, 2), 0);
        due.is("10: CUT no more than it had", all.of(0, 3), 3);
        // seen 99 longer, it is cut though it has nothing
        BitOff empty = Due.with("over 99 s=0", 0, 0, 0, 0, 0, 5);
        due.is("10: with nothing to take", empty.snip(), 0);
        due.is("10: a SNIP all the same", empty.told(0), 1);
        due.is("10: no CUT", empty.of(0, 3), 0);
    }

    private static void ofSeveral() {
        due.is("10: of several the first", Due.with(0, 0, 5, 0, 0, 60, 0, 0, 60).snip(), 1);
        BitOff x = Due.with("under 50 s=3;over 20 s=1", 0, 0, 60, 0, 0, 50, 0, 0, 40, 0, 0, 70);
        // LOOKS 60, 70, 40, 20
        due.is("10: looks longest", x.snip(), 1);
        due.is("10: by how it looks", x.of(1, 2), 0);
        due.is("10: CUT by how it looks", x.of(1, 3), 50);
        BitOff y = Due.with("under 50 s=1", 0, 0, 60, 0, 0, 100);
        due.is("10: it looks longer by 10", y.snip(), 0);
        due.is("10: 11 are off", y.of(0, 2), 49);
    }

    private static void cutMost() {
        BitOff x = Due.with("leave 0", 0, 0, 999, 0, 0, 0);
        for (int i = 0; i < 101; i++) {
            x.set(0, 999);
            x.snip();
        }
        due.is("10: CUT is 99999 at most", x.of(0, 3), 99999);
        x.set(0, 999);
        due.is("12: CUT more beyond its most", x.on(1, 1), 999);
        due.is("10: SNIP goes on", x.told(0), 101);
    }

    private static void pass() {
        BitOff x = Due.with(0, 9, 10, 1, 9, 10, 2, 9, 10, 3, 9, 10, 4, 9, 10, 6, 8, 10);
        due.is("11: -1", x.pass(-1), -2);
        due.is("11: 100", x.pass(100), -2);
        due.is("11: 0", x.pass(0), 0);
        due.is("11: 3", x.pass(3), 3);
        int[] lengths = {10, 10, 10, 37, 22, 34};
        for (int s = 0; s < 6; s++) due.is("11: long", x.of(s, 2), lengths[s]);
        due.is("11: 99", x.pass(99), 102);
        due.is("11: 9 a day", x.of(3, 2), 37 + 99 * 9);
        x.pass(20);
        due.is("11: 999 at most", x.of(3, 2), 999);
        due.is("11: told, 999 at most", x.of(5, 2), 986);
        x.pass(2);
        due.is("11: told, 999 at most", x.of(5, 2), 999);
        due.is("11: brittle", Due.with(5, 9, 10).pass(9), 9);
        BitOff y = Due.with(3, 1, 0, 5, 9, 7);
        for (int i = 1; i <= 101; i++) due.is("11: on and on", y.pass(99), 99 * i);
        due.is("11: above 9999", y.pass(1), -3);
        due.is("11: bad ahead of above", y.pass(100), -2);
        due.is("11: 0 goes", y.pass(0), 9999);
        due.is("11: DAY", y.told(1), 9999);
        due.is("11: brittle stays", y.of(1, 2), 7);
        due.is("11: once a day", y.of(0, 2), 999);
    }

    private static void on() {
        BitOff x = Due.with(0, 0, 60, 0, 0, 40, 3, 5, 50);
        due.is("12: none -1", x.on(0, -1), -1);
        due.is("12: none 2", x.on(0, 2), -1);
        due.is("12: none 9", x.on(0, 9), -1);
        due.is("12: none 13 ahead of n", x.on(61, 13), -1);
        due.is("12: n -1", x.on(-1, 0), -2);
        due.is("12: n 61", x.on(61, 1), -2);
        due.is("12: n 61", x.on(61, 10), -2);
        // 60 40 50; 39 40 50 (21 off); 39 40 38 (12 off): DONE
        int[] off = {20, 11, 2, 2};
        int[] more = {0, 21, 33, 33};
        for (int n = 0; n < 4; n++) {
            due.is("12: OFF of " + n, x.on(n, 0), off[n]);
            due.is("12: CUT more of " + n, x.on(n, 1), more[n]);
            due.is("12: LONG of " + n, x.on(n, 10), n == 0 ? 60 : 39);
            due.is("12: LONG of " + n, x.on(n, 11), 40);
            due.is("12: LONG of " + n, x.on(n, 12), n < 2 ? 50 : 38);
        }
        due.is("12: sixty", x.on(60, 0), 2);
        due.is("12: changes nothing", x.of(0, 2), 60);
        due.is("12: no SNIP", x.told(0), 0);
        x.snip();
        due.is("12: more from now on", x.on(60, 1), 12);
        due.is("12: nobody", new BitOff().on(60, 0), 0);
        due.is("12: nobody's CUT", new BitOff().on(60, 1), 0);
        due.is("12: nobody's LONG", new BitOff().on(60, 10), -1);
        // n tells how many SNIPS it has been: the third one takes the other side
        BitOff n = Due.with("leave 0;give 0;over 9 s=1&n>1", 0, 0, 10, 0, 0, 9, 0, 0, 0);
        due.is("12: tests go with SNIP", n.on(1, 10), 0);
        due.is("12: tests go with SNIP", n.on(2, 11), 0);
        due.is("12: tests go with SNIP", n.on(5, 1), 19);
        due.is("12: and end with it", n.ends(), 10);
    }

    private static void ends() {
        due.is("13: nobody", new BitOff().ends(), 0);
        due.is("13: alone", Due.with("leave 0", 0, 0, 60).ends(), 0);
        due.is("13: at once", Due.with(0, 0, 60, 0, 0, 58).ends(), 0);
        due.is("13: two", Due.with(0, 0, 60, 0, 0, 40, 3, 5, 50).ends(), 2);
        // it has nothing and looks 9 longer, till n is 9
        due.is("13: nine", Due.with("over 9 s=0&!n=9", 0, 0, 0, 0, 0, 0).ends(), 9);
        due.is("13: never", Due.with("over 9 s=0", 0, 0, 0, 0, 0, 0).ends(), -5);
        // each takes 2 of the one that is 1 longer, so that the other one is then
        BitOff sixty = Due.with("leave 0", 0, 0, 60, 0, 0, 59);
        due.is("13: sixty", sixty.ends(), 60);
        due.is("13: changes nothing", sixty.told(0), 0);
        due.is("13: one more is too late", Due.with("leave 0", 0, 0, 61, 0, 0, 60).ends(), -5);
    }

    private static void shortest() {
        BitOff x = Due.with(0, 0, 60, 0, 0, 40, 3, 5, 50);
        due.is("14: -1", x.shortest(-1), -2);
        due.is("14: 61", x.shortest(61), -2);
        due.is("14: 0", x.shortest(0), 40);
        due.is("14: 1", x.shortest(1), 39);
        due.is("14: 2", x.shortest(2), 38);
        due.is("14: 60", x.shortest(60), 38);
        due.is("14: nobody", new BitOff().shortest(0), 0);
        due.is("14: changes nothing", x.shortest(0), 40);
    }

    private static void sides() {
        BitOff x = Due.with(0, 0, 40, 0, 0, 60, 3, 5, 50);
        due.is("15: 0", x.sides(0), -2);
        due.is("15: 61", x.sides(61), -2);
        due.is("15: 1", x.sides(1), 2);
        due.is("15: 2", x.sides(2), 6);
        due.is("15: 60", x.sides(60), 6);
        due.is("15: changes nothing", x.sides(1), 2);
        due.is("15: nobody", new BitOff().sides(1), 0);
        due.is("15: DONE", Due.with(0, 0, 9, 0, 0, 8).sides(60), 0);
        BitOff y = Due.with(0, 0, 0, 0, 0, 10, 0, 0, 20, 0, 0, 30, 0, 0, 40, 0, 0, 50);
        due.is("15: the sixth", y.sides(1), 32);
    }
}
