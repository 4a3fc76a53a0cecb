/** Promises 25 to 33: what is seen, odds, plans, books. */
public final class SeenTest {
    private static final Due due = new Due();

    public static void main(String[] args) {
        see();
        was();
        now();
        odds();
        mean();
        plan();
        planned();
        book();
        looked();
        due.end();
    }

    private static void see() {
        BitOff x = new BitOff();
        due.is("25: none", x.see(-1), 0);
        due.is("25: -2", x.see(-2), -2);
        due.is("25: 1000", x.see(1000), -2);
        due.is("25: nothing came", x.count(2), 0);
        due.is("25: 0", x.see(0), 1);
        due.is("25: 999", x.see(999), 2);
        for (int i = 3; i <= 5; i++) due.is("25: more", x.see(i), i);
        due.is("25: full", x.see(0), -4);
        due.is("25: bad ahead of full", x.see(1000), -2);
        due.is("25: five", x.count(2), 5);
        due.is("25: none then", x.see(-1), 0);
        due.is("25: none", x.count(2), 0);
        due.is("25: one", x.see(7), 1);
    }

    private static void was() {
        BitOff x = Due.with(0, 0, 60, 0, 0, 40);
        due.is("26: none -1", x.was(-1, 0), -1);
        due.is("26: none 2", x.was(2, 0), -1);
        due.is("26: what -1", x.was(0, -1), -1);
        due.is("26: what 2", x.was(0, 2), -1);
        due.is("26: nothing seen, all", x.was(0, 0), 100);
        due.is("26: nothing seen, the least", x.was(0, 1), 0);
        x.see(11);
        // 10 longer than 40 (11 off), or 10 shorter, as then 11 of the 40 are
        due.is("26: 11 off", x.was(0, 0), 2);
        due.is("26: the least", x.was(0, 1), 30);
        due.is("26: 11 off the other", x.was(1, 0), 2);
        due.is("26: the least of the other", x.was(1, 1), 50);
        x.see(4);
        // from 50: 39 and 40, DONE
        due.is("26: DONE ahead of it", x.was(0, 0), 0);
        due.is("26: none", x.was(0, 1), -5);
        BitOff y = Due.with("leave 0", 0, 0, 60, 0, 0, 40);
        y.see(11);
        y.see(2);
        y.see(2);
        due.is("26: one behind the other", y.was(0, 0), 2);
        due.is("26: the least of those", y.was(0, 1), 30);
        y.see(3);
        due.is("26: not the fourth", y.was(0, 0), 0);
        BitOff z = Due.with("leave 0", 0, 0, 500, 0, 0, 140);
        z.see(999);
        due.is("26: 999", z.was(0, 0), 0);
        z.see(-1);
        z.see(42);
        due.is("26: up to 99", z.was(0, 0), 1);
        due.is("26: 99", z.was(0, 1), 99);
        z.see(-1);
        z.see(140);
        due.is("26: not above the 140", z.was(0, 0), 2);
        due.is("26: from 0 on", z.was(0, 1), 0);
        due.is("26: changes nothing", z.of(0, 2), 500);
    }

    private static void now() {
        BitOff x = Due.with(0, 0, 60, 0, 0, 40);
        due.is("27: nothing seen", x.now(), 1);
        x.see(21);
        due.is("27: 21 off", x.now(), 1);
        x.see(0);
        due.is("27: DONE is not 0 off", x.now(), 0);
        x.see(-1);
        x.see(20);
        due.is("27: not 20", x.now(), 0);
        x.see(-1);
        x.see(21);
        x.snip();
        due.is("27: from now on", x.now(), 0);
        due.is("27: nobody", new BitOff().now(), 1);
        BitOff y = Due.with("leave 0", 0, 0, 60, 0, 0, 40);
        int[] taken = {21, 2, 2, 2, 2};
        for (int n : taken) y.see(n);
        due.is("27: five", y.now(), 1);
        due.is("27: changes nothing", y.told(0), 0);
    }

    private static void odds() {
        due.is("28: nobody", new BitOff().odds(5, 0), BitOff.NO);
        BitOff x = Due.with("give 0;leave 5", 0, 0, 40, 0, 0, 40, 0, 0, 39, 0, 0, 38);
        due.is("28: q -1", x.odds(-1, 0), BitOff.NO);
        due.is("28: q 1000", x.odds(1000, 0), BitOff.NO);
        due.is("28: part -1", x.odds(5, -1), BitOff.NO);
        due.is("28: part 2", x.odds(5, 2), BitOff.NO);
        // 45 40 39 38: 7 off, OFF 2; so by the second one; 44: 6 off, OFF 2; 43: 4 longer is DONE
        due.is("28: above of 0", x.odds(0, 0), 0);
        due.is("28: below of 0", x.odds(0, 1), 1);
        due.is("28: above of 1", x.odds(1, 0), 0);
        due.is("28: above of 2", x.odds(2, 0), 3);
        due.is("28: below of 2", x.odds(2, 1), 4);
        due.is("28: above of 3", x.odds(3, 0), 3);
        due.is("28: below of 3", x.odds(3, 1), 4);
        due.is("28: above of 4", x.odds(4, 0), 1);
        due.is("28: above of 5", x.odds(5, 0), 1);
        due.is("28: below of 5", x.odds(5, 1), 1);
        due.is("28: above of 999", x.odds(999, 0), 1);
        BitOff two = Due.with("give 0;leave 5", 0, 0, 40, 0, 0, 39, 0, 0, 40, 0, 0, 39);
        // one of the 40: 6 off, OFF 1; one of the 39: 44, 5, OFF 5
        due.is("28: lowest terms above", two.odds(1, 0), 1);
        due.is("28: lowest terms below", two.odds(1, 1), 2);
        due.is("28: changes nothing", two.of(0, 2), 40);
        BitOff top = Due.with("leave 99", 0, 0, 999, 0, 0, 999);
        due.is("28: LONG beyond 999", top.odds(4, 0), 0);
        due.is("28: by 5", top.odds(5, 0), 1);
        due.is("28: alone", Due.with(0, 0, 60).odds(0, 0), 1);
        due.is("28: alone below", Due.with(0, 0, 60).odds(0, 1), 1);
        // 30 and 29 end with the 30th SNIP, 31 and 30 with the next one; 35 and 26 by fewer
        due.is("28: 30 SNIPS go", Due.with("leave 0", 0, 0, 25, 0, 0, 29).odds(0, 1), 1);
        due.is("28: and no more", Due.with("leave 0", 0, 0, 26, 0, 0, 30).odds(0, 1), 2);
        BitOff thirty = Due.with("leave 0", 0, 0, 90, 0, 0, 84);
        // 95 84: 83 84, then 2 each: 1 off behind 30; 90 89 likewise
        due.is("28: not 0 off", thirty.odds(0, 0), 0);
        due.is("28: 1 off", thirty.odds(1, 0), 1);
    }

    private static void mean() {
        BitOff x = Due.with(0, 0, 60, 0, 0, 40, 3, 5, 50);
        due.is("29: nobody", new BitOff().mean(0, 0), BitOff.NO);
        due.is("29: n -1", x.mean(-1, 0), BitOff.NO);
        due.is("29: n 61", x.mean(61, 0), BitOff.NO);
        due.is("29: part -1", x.mean(0, -1), BitOff.NO);
        due.is("29: part 2", x.mean(0, 2), BitOff.NO);
        due.is("29: 150 by 3", x.mean(0, 0), 50);
        due.is("29: below", x.mean(0, 1), 1);
        due.is("29: 129 by 3", x.mean(1, 0), 43);
        due.is("29: 117 by 3", x.mean(60, 0), 39);
        BitOff y = Due.with(0, 0, 7, 0, 0, 8, 0, 0, 7, 0, 0, 8);
        due.is("29: 30 by 4", y.mean(0, 0), 15);
        due.is("29: 15 by 2", y.mean(0, 1), 2);
        y.set(0, 8);
        due.is("29: 31 by 4", y.mean(60, 0), 31);
        due.is("29: 31 by 4 below", y.mean(60, 1), 4);
        due.is("29: alone", Due.with(0, 0, 60).mean(9, 0), 60);
        due.is("29: 0 by 1", Due.with(0, 0, 0, 0, 0, 0).mean(9, 0), 0);
        due.is("29: 0 by 1 below", Due.with(0, 0, 0, 0, 0, 0).mean(9, 1), 1);
        due.is("29: 6 by 6", Due.with(0, 0, 1, 0, 0, 1, 0, 0, 1, 0, 0, 1, 0, 0, 1, 0, 0, 2).mean(0, 1), 6);
    }

    private static void plan() {
        BitOff x = new BitOff();
        due.is("30: empty", x.plan(-1), 0);
        due.is("30: -2", x.plan(-2), -1);
        due.is("30: 2", x.plan(2), -1);
        due.is("30: nothing came", x.count(3), 0);
        for (int i = 1; i <= 10; i++) due.is("30: more", x.plan(i % 2), i);
        due.is("30: full", x.plan(0), -4);
        due.is("30: none ahead of full", x.plan(2), -1);
        due.is("30: ten", x.count(3), 10);
        due.is("30: empty then", x.plan(-1), 0);
        due.is("30: empty", x.count(3), 0);
        due.is("30: one", x.plan(1), 1);
    }

    private static void planned() {
        BitOff x = Due.with(0, 0, 60, 3, 5, 40);
        due.is("31: none -1", x.planned(-1), -1);
        due.is("31: none 2", x.planned(2), -1);
        due.is("31: nothing goes", x.planned(0), 20);
        due.is("31: nothing is cut", x.planned(1), 0);
        x.plan(1);
        due.is("31: a DAY", x.planned(0), 15);
        x.plan(0);
        // 60 45: 16 off, 44 45
        due.is("31: a SNIP", x.planned(0), 1);
        due.is("31: CUT more", x.planned(1), 16);
        x.plan(0);
        due.is("31: DONE goes on", x.planned(0), 1);
        x.plan(1);
        due.is("31: a DAY behind it", x.planned(0), 6);
        x.plan(0);
        // 44 50: 7 off, 44 43
        due.is("31: CUT of both", x.planned(1), 23);
        due.is("31: OFF behind all", x.planned(0), 1);
        due.is("31: changes nothing", x.of(0, 2), 60);
        due.is("31: no DAY", x.told(1), 0);
        BitOff y = Due.with("over 30 d=2&s=0", 0, 0, 60, 0, 0, 60);
        y.plan(1);
        y.plan(0);
        due.is("31: not on DAY 1", y.planned(1), 0);
        y.plan(1);
        y.plan(0);
        due.is("31: DAY 2", y.planned(1), 31);
        due.is("31: nobody", new BitOff().planned(0), 0);
    }

    private static void book() {
        BitOff x = Due.with(0, 0, 60, 0, 0, 40);
        due.is("32: empty", x.book(-1, 0), 0);
        due.is("32: empty, whatever the other", x.book(-1, 5000), 0);
        due.is("32: none -2", x.book(-2, 0), -1);
        due.is("32: none 2 ahead of length", x.book(2, 1000), -1);
        due.is("32: length -1", x.book(0, -1), -2);
        due.is("32: length 1000", x.book(0, 1000), -2);
        due.is("32: nothing came", x.count(4), 0);
        for (int i = 1; i <= 8; i++) due.is("32: more", x.book(i % 2, i % 2 == 0 ? 999 : 0), i);
        due.is("32: full", x.book(0, 0), -4);
        due.is("32: none ahead of full", x.book(2, 0), -1);
        due.is("32: length ahead of full", x.book(0, 1000), -2);
        due.is("32: eight", x.count(4), 8);
        due.is("32: empty then", x.book(-1, -1), 0);
        due.is("32: empty", x.count(4), 0);
        due.is("32: one", x.book(0, 0), 1);
    }

    private static void looked() {
        BitOff x = Due.with(0, 0, 60, 0, 0, 40);
        due.is("33: no rows", x.looked(), -5);
        x.book(0, 60);
        x.book(1, 40);
        due.is("33: as it is", x.looked(), -5);
        x.book(0, 59);
        x.book(1, 41);
        due.is("33: the first that is otherwise", x.looked(), 2);
        x.set(0, 59);
        due.is("33: now it is the first row", x.looked(), 0);
        x.set(0, 60);
        x.set(1, 41);
        due.is("33: now the second", x.looked(), 1);
        x.book(-1, 0);
        due.is("33: no rows again", x.looked(), -5);
    }
}
