/** Promises 16 to 24: what is best. */
public final class BestTest {
    private static final Due due = new Due();

    public static void main(String[] args) {
        leaves();
        halves();
        first();
        twice();
        pad();
        wobbles();
        leg();
        grown();
        reaches();
        due.end();
    }

    private static void bestLeave(BitOff x, int leave, int off) {
        due.is("16: which", x.leaves(0), leave);
        due.is("16: OFF", x.leaves(1), off);
    }

    private static void leaves() {
        due.is("16: none -1", new BitOff().leaves(-1), -1);
        due.is("16: none 2", new BitOff().leaves(2), -1);
        bestLeave(new BitOff(), 30, 0);
        bestLeave(Due.with(0, 0, 9, 0, 0, 9), 30, 0);
        // OFF 20, 11 and then always 2
        bestLeave(Due.with(0, 0, 60, 0, 0, 40, 0, 0, 50), 10, 2);
        bestLeave(Due.with("leave 99", 0, 0, 60, 0, 0, 40, 0, 0, 50), 10, 2);
        bestLeave(Due.with("give 0", 0, 0, 60, 0, 0, 40), 19, 0);
        bestLeave(Due.with("give 0", 0, 0, 70, 0, 0, 40), 29, 0);
        bestLeave(Due.with("give 0", 0, 0, 71, 0, 0, 40), 30, 0);
        bestLeave(Due.with("give 0", 0, 0, 41, 0, 0, 40), 0, 0);
        bestLeave(Due.with("give 5", 0, 0, 999, 0, 0, 997), 30, 2);
        // seen 99 longer for good, none of them is DONE in 30 SNIPS
        bestLeave(Due.with("over 99 s=0", 0, 0, 0, 0, 0, 7), 30, 7);
        // 2 of the longer one each, so that the other is 1 longer then: 30 SNIPS end the 30, not the 31
        bestLeave(Due.with(0, 0, 30, 0, 0, 29), 0, 0);
        bestLeave(Due.with(0, 0, 31, 0, 0, 30), 30, 1);
        bestLeave(Due.with("leave 30", 0, 0, 90, 0, 0, 89), 30, 1);
        // as it looks alike, LEAVE 0 is DONE too
        bestLeave(Due.with("under 20 s=0", 0, 0, 60, 0, 0, 40), 30, 20);
        BitOff x = Due.with(0, 0, 60, 0, 0, 40);
        x.leaves(0);
        due.is("16: changes nothing", x.told(3), 2);
        due.is("16: cuts nothing", x.of(0, 2), 60);
    }

    private static void halves() {
        due.is("17: nobody", new BitOff().halves(), 0);
        // all: 39 40; half: 49 40, 43 40, 40 40
        due.is("17: half is better", Due.with(0, 0, 60, 0, 0, 40).halves(), 1);
        due.is("17: as it is HALF", Due.with("half", 0, 0, 60, 0, 0, 40).halves(), 1);
        due.is("17: half is worse", Due.with("give 0", 0, 0, 43, 0, 0, 40).halves(), -1);
        // half is DONE by one SNIP; all goes on by 2 each and ends with the 30th, or with the 31st
        due.is("17: 30 SNIPS go", Due.with("leave 0", 0, 0, 31, 0, 0, 29).halves(), 0);
        due.is("17: and no more", Due.with("leave 0", 0, 0, 32, 0, 0, 30).halves(), 1);
        BitOff x = Due.with("half", 0, 0, 43, 0, 0, 40);
        x.halves();
        due.is("17: changes nothing", x.told(4), 1);
        due.is("17: cuts nothing", x.of(0, 2), 43);
    }

    private static void first() {
        BitOff x = Due.with("give 0;leave 99", 0, 0, 40, 0, 0, 60, 0, 0, 50);
        due.is("18: c 0", x.first(0), -2);
        due.is("18: c 100", x.first(100), -2);
        due.is("18: the longest", x.first(10), 1);
        due.is("18: by 1", x.first(1), 1);
        due.is("18: by 99", x.first(99), 1);
        due.is("18: changes nothing", x.of(1, 2), 60);
        due.is("18: no SNIP", x.told(0), 0);
        due.is("18: nobody", new BitOff().first(1), -5);
        due.is("18: nobody by 99", new BitOff().first(99), -5);
        due.is("18: of several the first", Due.with("give 0;leave 99", 0, 0, 60, 0, 0, 60, 0, 0, 0).first(10), 0);
        due.is("18: GIVE more", Due.with("give 45;leave 99", 2, 0, 50, 0, 0, 60).first(1), 0);
        due.is("18: GIVE less", Due.with("give 30;leave 99", 2, 0, 50, 0, 0, 60).first(1), 1);
        // behind it SNIP is 1, and side 0 looks much longer for once
        due.is("18: SNIP is 1 more", Due.with("give 0;leave 30;over 60 s=0&n=1", 0, 0, 10, 0, 0, 10).first(5), 1);
        // 30 and 29 end with the 30th, 31 and 30 with the 31st; the other side first is sooner
        due.is("18: 30 SNIPS go", Due.with("leave 0", 0, 0, 32, 0, 0, 29).first(1), 0);
        due.is("18: and no more", Due.with("leave 0", 0, 0, 33, 0, 0, 30).first(1), 1);
    }

    private static void twice() {
        due.is("19: nobody", new BitOff().twice(), 0);
        due.is("19: truer is better", Due.with(0, 0, 60, 0, 0, 40).twice(), 1);
        due.is("19: truer is worse", Due.with("give 2", 2, 0, 60, 0, 0, 40).twice(), -1);
        due.is("19: 30 SNIPS go", Due.with("leave 0", 0, 0, 30, 0, 0, 29).twice(), 0);
        due.is("19: and no more", Due.with("leave 0", 0, 0, 31, 0, 0, 30).twice(), 1);
        due.is("19: as it is", Due.with("give 0", 2, 0, 60, 0, 0, 40).twice(), 0);
        BitOff x = Due.with(0, 0, 60, 0, 0, 40);
        x.twice();
        due.is("19: changes nothing", x.told(2), 1);
        due.is("19: cuts nothing", x.of(0, 2), 60);
    }

    private static void pad() {
        due.is("20: nobody", new BitOff().pad(), -5);
        due.is("20: alone", Due.with(0, 0, 9).pad(), -5);
        due.is("20: alike", Due.with(0, 0, 9, 0, 0, 9).pad(), -5);
        due.is("20: none helps", Due.with(0, 0, 9, 0, 0, 20, 0, 0, 9).pad(), -5);
        due.is("20: by 10", Due.with(0, 0, 60, 0, 0, 60, 0, 0, 50).pad(), 210);
        due.is("20: the first side", Due.with(0, 0, 49, 0, 0, 60).pad(), 11);
        due.is("20: 99 at most", Due.with(0, 0, 150, 0, 0, 0).pad(), 199);
        due.is("20: 98 just", Due.with(0, 0, 98, 0, 0, 0).pad(), 198);
        due.is("20: the least such", Due.with(0, 0, 95, 0, 0, 60, 0, 0, 61).pad(), 101);
        due.is("20: at the top", Due.with(0, 0, 999, 0, 0, 998).pad(), 101);
        due.is("20: not as it looks", Due.with("over 20 s=1", 0, 0, 60, 0, 0, 50).pad(), 110);
        BitOff x = Due.with(0, 0, 60, 0, 0, 50);
        x.pad();
        due.is("20: changes nothing", x.of(1, 2), 50);
    }

    private static void wobbles() {
        due.is("21: nobody", new BitOff().wobbles(), -5000);
        due.is("21: three", Due.with(0, 0, 1, 0, 0, 2, 0, 0, 3).wobbles(), -5000);
        due.is("21: four", Due.with(0, 0, 60, 0, 0, 50, 0, 0, 7, 0, 0, 3).wobbles(), 14);
        due.is("21: below", Due.with(0, 0, 0, 0, 0, 999, 0, 0, 0, 0, 0, 999).wobbles(), -1998);
        due.is("21: five", Due.with(0, 0, 60, 0, 0, 50, 0, 0, 7, 0, 0, 17, 0, 0, 99).wobbles(), 0);
    }

    private static void leg() {
        due.is("22: nobody", new BitOff().leg(), -5);
        due.is("22: three", Due.with(0, 0, 60, 0, 0, 2, 0, 0, 3).leg(), -5);
        due.is("22: stands", Due.with(0, 0, 60, 0, 0, 50, 0, 0, 7, 0, 0, 17).leg(), -5);
        due.is("22: alike the first", Due.with(0, 0, 60, 0, 0, 50, 0, 0, 60, 0, 0, 40).leg(), 30);
        due.is("22: the longer", Due.with(0, 0, 60, 0, 0, 50, 0, 0, 61, 0, 0, 40).leg(), 2031);
        due.is("22: the longer is first", Due.with(0, 0, 62, 0, 0, 50, 0, 0, 61, 0, 0, 40).leg(), 33);
        due.is("22: below, alike", Due.with(0, 0, 50, 0, 0, 60, 0, 0, 40, 0, 0, 60).leg(), 1030);
        due.is("22: below, the longer", Due.with(0, 0, 50, 0, 0, 60, 0, 0, 40, 0, 0, 61).leg(), 3031);
        due.is("22: not long enough", Due.with(0, 0, 5, 0, 0, 0, 0, 0, 6, 0, 0, 0).leg(), -5);
        due.is("22: by 1", Due.with(0, 0, 5, 0, 0, 5, 0, 0, 6, 0, 0, 5).leg(), 2001);
        due.is("22: just long enough", Due.with(0, 0, 0, 0, 0, 0, 0, 0, 11, 0, 0, 0).leg(), 2011);
        due.is("22: just long enough below", Due.with(0, 0, 0, 0, 0, 11, 0, 0, 0, 0, 0, 0).leg(), 1011);
    }

    private static void grown() {
        BitOff x = Due.with(3, 5, 40, 0, 0, 60);
        due.is("23: -1", x.grown(-1), -2);
        due.is("23: 1000", x.grown(1000), -2);
        due.is("23: 999", x.grown(999), 0);
        due.is("23: 20", x.grown(20), 0);
        due.is("23: 19", x.grown(19), 1);
        due.is("23: 5", x.grown(5), 3);
        due.is("23: 0", x.grown(0), 4);
        due.is("23: changes nothing", x.of(0, 2), 40);
        due.is("23: no DAY", x.told(1), 0);
        due.is("23: none", Due.with(0, 0, 40, 0, 0, 60).grown(19), -5);
        due.is("23: 99 days", Due.with(3, 1, 0, 0, 0, 99).grown(0), 99);
        due.is("23: 99 days are not enough", Due.with(3, 1, 0, 0, 0, 100).grown(0), -5);
        due.is("23: 999 at most", Due.with(3, 9, 990, 4, 2, 980).grown(0), 19);
        due.is("23: nobody", new BitOff().grown(0), 0);
    }

    private static void reaches() {
        BitOff x = Due.with(3, 9, 0, 0, 9, 50, 6, 2, 990);
        due.is("24: none -1", x.reaches(-1, 0), -1);
        due.is("24: none 3 ahead of h", x.reaches(3, 1000), -1);
        due.is("24: h -1", x.reaches(0, -1), -2);
        due.is("24: h 1000", x.reaches(0, 1000), -2);
        due.is("24: 0", x.reaches(0, 0), 0);
        due.is("24: 9", x.reaches(0, 9), 1);
        due.is("24: 10", x.reaches(0, 10), 2);
        due.is("24: 891", x.reaches(0, 891), 99);
        due.is("24: 892", x.reaches(0, 892), -5);
        due.is("24: as it is", x.reaches(1, 50), 0);
        due.is("24: never", x.reaches(1, 51), -5);
        due.is("24: the most", x.reaches(2, 999), 5);
        due.is("24: changes nothing", x.of(0, 2), 0);
    }
}
