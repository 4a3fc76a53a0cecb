/** Promises 1 to 9: a new object, sides, kitchens. */
public final class SidesTest {
    private static final Due due = new Due();

    public static void main(String[] args) {
        constants();
        newObject();
        sides();
        ofOne();
        taken();
        set();
        row();
        feed();
        kitchens();
        faults();
        tests();
        told();
        due.end();
    }

    private static void constants() {
        due.is("NONE", BitOff.NONE, -1);
        due.is("BAD", BitOff.BAD, -2);
        due.is("STATE", BitOff.STATE, -3);
        due.is("FULL", BitOff.FULL, -4);
        due.is("NO", BitOff.NO, Long.MIN_VALUE);
    }

    private static void newObject() {
        BitOff x = new BitOff();
        for (int what = 0; what <= 6; what++) due.is("1: count(" + what + ")", x.count(what), 0);
        int[] plain = {0, 0, 1, 2, 0, 0, 1};
        for (int what = 0; what <= 6; what++) due.is("1: told(" + what + ")", x.told(what), plain[what]);
        due.is("1: of nobody", x.of(0, 0), -10001);
        due.is("1: undo", x.undo(), -3);
    }

    private static void sides() {
        BitOff x = new BitOff();
        due.is("2: kind -1", x.side(-1, 0, 0), -1);
        due.is("2: kind 7 ahead of v", x.side(7, 10, 0), -1);
        due.is("2: v -1", x.side(0, -1, 0), -2);
        due.is("2: v 10", x.side(0, 10, 0), -2);
        due.is("2: length -1", x.side(0, 0, -1), -2);
        due.is("2: length 1000", x.side(0, 0, 1000), -2);
        due.is("2: nobody came", x.count(0), 0);
        due.is("2: first", x.side(0, 0, 0), 0);
        due.is("2: second", x.side(6, 9, 999), 1);
        for (int i = 2; i < 6; i++) due.is("2: more", x.side(i, i, i), i);
        due.is("2: full", x.side(0, 0, 0), -4);
        due.is("2: kind ahead of full", x.side(7, 0, 0), -1);
        due.is("2: v ahead of full", x.side(0, 10, 0), -2);
        due.is("2: length ahead of full", x.side(0, 0, 1000), -2);
        due.is("2: six", x.count(0), 6);
    }

    private static void ofOne() {
        BitOff x = Due.with(0, 9, 100, 1, 9, 90, 2, 9, 80, 3, 8, 70, 4, 9, 60, 6, 7, 50);
        int[] grows = {0, 0, 0, 8, 4, 7};
        int[] kinds = {0, 1, 2, 3, 4, 6};
        for (int s = 0; s < 6; s++) {
            due.is("3: kind", x.of(s, 0), kinds[s]);
            due.is("3: v", x.of(s, 1), s == 3 ? 8 : s == 5 ? 7 : 9);
            due.is("3: long", x.of(s, 2), 100 - 10 * s);
            due.is("3: cut", x.of(s, 3), 0);
            due.is("3: looks", x.of(s, 4), 100 - 10 * s);
            due.is("3: grows", x.of(s, 5), grows[s]);
        }
        due.is("3: brittle grows", Due.with(5, 9, 10).of(0, 5), 0);
        due.is("3: no side -1", x.of(-1, 0), -10001);
        due.is("3: no side 6", x.of(6, 0), -10001);
        due.is("3: no what -1", x.of(0, -1), -10001);
        due.is("3: no what 6", x.of(0, 6), -10001);
        BitOff low = Due.with("under 99 s=0;under 7 l=0;over 3 v>8", 0, 9, 5, 0, 0, 100);
        due.is("3: looks below 0", low.of(0, 4), 5 - 99 - 7 + 3);
        due.is("3: looks as long", low.of(1, 4), 100);
    }

    private static void taken() {
        int[] kinds = {0, 1, 2, 3, 4, 5, 6};
        int[] by10 = {11, 14, 5, 11, 28, 12, 11};
        for (int i = 0; i < kinds.length; i++) {
            BitOff x = Due.with(kinds[i], 7, 500);
            due.is("4: kind " + i + " by 10", x.taken(0, 10), by10[i]);
            due.is("4: kind " + i + " never more", x.taken(0, 999), 500);
            due.is("4: changes nothing", x.of(0, 2), 500);
            due.is("4: cuts nothing", x.of(0, 3), 0);
        }
        due.is("4: stiff is half of what of a side is", Due.with(2, 9, 999).taken(0, 999), 500);
        due.is("4: stiff by 0", Due.with(2, 9, 999).taken(0, 0), 0);
        due.is("4: brittle by 0", Due.with(5, 9, 999).taken(0, 0), 9);
        due.is("4: curly of 50", Due.with(4, 7, 50).taken(0, 10), 14);
        due.is("4: curly of 51", Due.with(4, 7, 51).taken(0, 10), 28);
        due.is("4: curly of 51 no more", Due.with(4, 7, 51).taken(0, 30), 51);
        BitOff x = Due.with(6, 0, 900, 0, 0, 0);
        x.row(0, 0, 9);
        x.row(0, 1, 2);
        due.is("4: told at SNIP 0", x.taken(0, 10), 20);
        due.is("4: a snip", x.snip(), 0);
        due.is("4: its row went with it", x.of(0, 2), 0);
        x.set(0, 999);
        due.is("4: told at SNIP 1", x.taken(0, 10), 13);
        BitOff second = Due.with(0, 0, 9, 6, 0, 900);
        second.row(1, 0, 7);
        due.is("4: told, the second side", second.taken(1, 10), 18);
        due.is("4: none -1", x.taken(-1, 0), -1);
        due.is("4: none 2 ahead of c", x.taken(2, 1000), -1);
        due.is("4: c -1", x.taken(0, -1), -2);
        due.is("4: c 1000", x.taken(0, 1000), -2);
        due.is("4: c 0", x.taken(1, 0), 0);
        due.is("4: give 99", Due.with("give 99", 4, 9, 999).taken(0, 9), 224);
        due.is("4: give 0", Due.with("give 0", 0, 9, 999).taken(0, 9), 9);
        due.is("4: half is no matter", Due.with("half", 0, 9, 999).taken(0, 9), 10);
    }

    private static void set() {
        BitOff x = Due.with(0, 0, 60);
        due.is("5: none -1", x.set(-1, 0), -1);
        due.is("5: none 1 ahead of n", x.set(1, 1000), -1);
        due.is("5: n -1", x.set(0, -1), -2);
        due.is("5: n 1000", x.set(0, 1000), -2);
        due.is("5: as it was", x.set(0, 999), 60);
        due.is("5: then", x.set(0, 0), 999);
        due.is("5: is", x.of(0, 2), 0);
        due.is("5: cuts nothing", x.of(0, 3), 0);
    }

    private static void row() {
        BitOff x = Due.with(6, 0, 60, 3, 0, 60, 6, 0, 50);
        due.is("6: none -1", x.row(-1, 0, 0), -1);
        due.is("6: none 3", x.row(3, 0, 10), -1);
        due.is("6: part -1", x.row(0, -1, 10), -1);
        due.is("6: part 4", x.row(0, 4, 0), -1);
        due.is("6: part ahead of kind", x.row(1, 4, 0), -1);
        due.is("6: n -1", x.row(0, 0, -1), -2);
        due.is("6: n 10 ahead of kind", x.row(1, 0, 10), -2);
        due.is("6: another kind", x.row(1, 0, 0), -3);
        for (int part = 0; part < 4; part++) due.is("6: was 0", x.row(0, part, part + 3), 0);
        for (int part = 0; part < 4; part++) due.is("6: was told", x.row(0, part, 9 - part), part + 3);
        for (int part = 0; part < 4; part++) due.is("6: not the other one's", x.row(2, part, 0), 0);
        BitOff y = Due.with("leave 0;give 0", 6, 0, 999, 0, 0, 0);
        for (int part = 0; part < 4; part++) y.row(0, part, 2 * part + 1);
        for (int n = 0; n < 6; n++) {
            y.set(0, 999);
            due.is("6: more at " + n, y.taken(0, 0), 2 * (n % 4) + 1);
            y.snip();
        }
    }

    private static void feed() {
        BitOff x = new BitOff();
        due.is("7: -1", x.feed(-1), -2);
        due.is("7: 128", x.feed(128), -2);
        due.is("7: nothing came", x.count(5), 0);
        due.is("7: 0", x.feed(0), 1);
        due.is("7: 127", x.feed(127), 2);
        for (int i = 3; i <= 100; i++) due.is("7: more", x.feed('a'), i);
        due.is("7: full", x.feed('a'), -4);
        due.is("7: bad ahead of full", x.feed(128), -2);
        due.is("7: a hundred", x.count(5), 100);
        due.is("7: its first byte is the fault", x.kitchen(), -10);
        due.is("7: empty again", x.count(5), 0);
    }

    private static void kitchens() {
        BitOff x = Due.with(0, 0, 10);
        due.is("8: first", Due.read(x, "give 7;leave 9;half"), 0);
        due.is("8: text is empty", x.count(5), 0);
        due.is("8: a fault", Due.read(x, "give 8;"), -17);
        due.is("8: the one that held holds", x.told(2), 7);
        due.is("8: no more of them", x.count(1), 1);
        due.is("8: text is empty by a fault", x.count(5), 0);
        due.is("8: second", Due.read(x, "all"), 1);
        due.is("8: give 1 again", x.told(2), 1);
        due.is("8: leave 2 again", x.told(3), 2);
        due.is("8: not half", x.told(4), 0);
        for (int i = 2; i < 6; i++) due.is("8: more", Due.read(x, "over " + i + " s=0"), i);
        due.is("8: newest holds", x.of(0, 4), 15);
        due.is("8: full", Due.read(x, "half"), -4);
        due.is("8: the text stays", x.count(5), 4);
        due.is("8: full ahead of a fault", Due.read(x, "?"), -4);
        due.is("8: the text stays", x.count(5), 5);
        due.is("8: the sixth holds still", x.of(0, 4), 15);
        due.is("8: six", x.count(1), 6);
        BitOff last = Due.with("give 4;half;give 0;leave 5;all;leave 30;half;all;half;give 12", 0, 0, 0);
        due.is("8: the last give", last.told(2), 12);
        due.is("8: the last leave", last.told(3), 30);
        due.is("8: the last of half, all", last.told(4), 1);
        BitOff late = new BitOff();
        due.is("8: a fault behind what is told", Due.read(late, "give 50;leave 60;half;over 9 s=0;x"), -10 - 33);
        due.is("8: gives nothing", late.told(2), 1);
        due.is("8: leaves nothing", late.told(3), 2);
        due.is("8: halves nothing", late.told(4), 0);
        late.side(0, 0, 5);
        due.is("8: looks nothing", late.of(0, 4), 5);
        due.is("8: a good one behind a fault", Due.read(late, "leave 1"), 0);
        due.is("8: has nothing of the fault", late.of(0, 4), 5);
        due.is("8: nor its give", late.told(2), 1);
        BitOff many = Due.with(0, 0, 5, 0, 0, 5);
        for (int i = 0; i < 12; i++) Due.read(many, "over 9 s=0|s=1&s=1|v=0|k=0|l=0;leave 9;give 9;half;?");
        due.is("8: behind many faults", Due.read(many, "over 7 s=1"), 0);
        due.is("8: it is so", many.of(1, 4), 12);
        due.is("8: it is not so", many.of(0, 4), 5);
        due.is("8: GIVE without", many.told(2), 1);
        due.is("8: LEAVE without", many.told(3), 2);
        due.is("8: HALF without", many.told(4), 0);
        due.is("8: all behind half", Due.with("half;all").told(4), 0);
    }

    private static void fault(String text, int place) {
        due.is("8: fault of " + text, Due.read(new BitOff(), text), -10 - place);
    }

    private static void good(String text) {
        due.is("8: good " + text, Due.read(new BitOff(), text), 0);
    }

    private static void faults() {
        fault("", 0);
        fault(" ", 0);
        fault(";", 0);
        fault("x", 0);
        fault("Over 1 s=1", 0);
        fault("o", 1);
        fault("ove", 3);
        fault("over", 4);
        fault("over1", 4);
        fault("over ", 5);
        fault("over  1", 5);
        fault("over x", 5);
        fault("over 1", 6);
        fault("over 12", 7);
        fault("over 123 s=1", 7);
        fault("over 12 ", 8);
        fault("over 12;", 7);
        fault("over 12  s=1", 8);
        fault("over 1 s", 8);
        fault("over 1 s=", 9);
        fault("over 1 s=x", 9);
        fault("over 1 s==1", 9);
        fault("over 1 s=123", 11);
        fault("over 1 s=1 ", 10);
        fault("over 1 s=1)", 10);
        fault("over 1 s=1&", 11);
        fault("over 1 s=1|", 11);
        fault("over 1 s=1&&s=1", 11);
        fault("over 1 s=1|&s=1", 11);
        fault("over 1 ()", 8);
        fault("over 1 (s=1", 11);
        fault("over 1 (s=1;", 11);
        fault("over 1 !", 8);
        fault("over 1 a=1", 7);
        fault("over 1 S=1", 7);
        fault("over 1 s!1", 8);
        fault("over 1 1=s", 7);
        fault("under 1 s=1;", 12);
        fault("under1 s=1", 5);
        fault("undir 1 s=1", 3);
        fault("give", 4);
        fault("give ", 5);
        fault("give x", 5);
        fault("give 123", 7);
        fault("give -1", 5);
        fault("given 1", 4);
        for (String word : new String[] {"over ", "under ", "give ", "leave ", "half", "all"}) {
            for (int i = 1; i < word.length(); i++) {
                fault(word.substring(0, i), i);
                fault(word.substring(0, i) + "?", i);
            }
        }
        fault("leave ", 6);
        fault("leave 1 ", 7);
        fault("leaves", 5);
        fault("half 1", 4);
        fault("hale", 3);
        fault("halff", 4);
        fault("all;;", 4);
        fault("all all", 3);
        fault("al", 2);
        fault("a;", 1);
        fault("all;all;all;all;all;all;all;all;all;all;", 39);
        fault("all;all;all;all;all;all;all;all;all;all;all", 39);
        fault("all;all;all;all;all;all;all;all;all;all ", 39);
        good("all;all;all;all;all;all;all;all;all;all");
        good("over 0 s=0");
        good("over 00 s=00;under 99 d>99|n<0");
        good("over 1 ((((s=1))))");
        fault("over 1 (((((s=1)))))", 11);
        good("over 1 !!!!s=1");
        fault("over 1 !!!!!s=1", 11);
        fault("over 1 !!!!(s=1)", 11);
        fault("over 1 (!(!(s=1)))", 11);
        good("over 1 (!(!s=1))");
        fault("over 1 ((((!s=1))))", 11);
        fault("over 1 ((((s=1)&s=1", 19);
        good("over 1 !s=1&!s=2&!s=3|!s=4&!s=5|(s=6)&(s=7)");
        good("over 1 ((s=1)&(s=2)|!((s=3)))&!!!!s=4");
        fault("over 1 (s=1))", 12);
        StringBuilder long100 = new StringBuilder("over 1 s=1");
        while (long100.length() < 98) long100.append("|s=1");
        due.is("8: of 98 bytes", long100.length(), 98);
        good(long100.toString());
        fault(long100 + "|", 99);
        fault(long100 + "|s", 100);
        fault(long100 + ";a", 100);
    }

    /** By how much a SIDE looks longer than it is. */
    private static void looks(String test, BitOff x, int... holds) {
        due.is("3: read " + test, Due.read(x, "over 1 " + test) >= 0 ? 1 : 0, 1);
        for (int s = 0; s < holds.length; s++) {
            due.is("3: " + test + " of " + s, x.of(s, 4) - x.of(s, 2), holds[s]);
        }
    }

    private static BitOff three() {
        return Due.with(0, 4, 59, 5, 5, 60, 6, 6, 69);
    }

    private static void tests() {
        looks("s=1", three(), 0, 1, 0);
        looks("s<1", three(), 1, 0, 0);
        looks("s>1", three(), 0, 0, 1);
        looks("k>4", three(), 0, 1, 1);
        looks("k=6", three(), 0, 0, 1);
        looks("v=4", three(), 1, 0, 0);
        looks("v<6", three(), 1, 1, 0);
        looks("l=6", three(), 0, 1, 1);
        looks("l<6", three(), 1, 0, 0);
        looks("l=99", Due.with(0, 0, 999, 0, 0, 989), 1, 0);
        looks("l>98", Due.with(0, 0, 999, 0, 0, 989), 1, 0);
        looks("!s=1", three(), 1, 0, 1);
        looks("!!s=1", three(), 0, 1, 0);
        looks("s=0|s=1&v=6", three(), 1, 0, 0);
        looks("(s=0|s=1)&v=5", three(), 0, 1, 0);
        looks("s=0&v=4|s=2&v=6", three(), 1, 0, 1);
        looks("s=0|s=2&v=6|s=1&v=0", three(), 1, 0, 1);
        looks("!s=0&s<2", three(), 0, 1, 0);
        looks("!(s=0&s<2)", three(), 0, 1, 1);
        looks("!s=0|s=0", three(), 1, 1, 1);
        looks("s=01", three(), 0, 1, 0);
        looks("n=0", three(), 1, 1, 1);
        looks("s<0", three(), 0, 0, 0);
        looks("!s<0", three(), 1, 1, 1);
        BitOff x = Due.with("leave 0;give 0", 0, 0, 99, 0, 0, 0);
        for (int i = 0; i < 13; i++) {
            x.set(0, 99);
            x.snip();
        }
        due.is("3: 13 snips", x.told(0), 13);
        looks("n=3", x, 1, 1);
        looks("n>3", x, 0, 0);
        x.pass(27);
        looks("d=7", x, 1, 1);
        looks("d<7", x, 0, 0);
        BitOff sum = Due.with("over 5 s=0;under 2 s=0;over 30 s<2;under 9 s=1;over 1 s=2", 0, 0, 10, 0, 0, 10, 0, 0, 10);
        due.is("3: together 0", sum.of(0, 4), 43);
        due.is("3: together 1", sum.of(1, 4), 31);
        due.is("3: together 2", sum.of(2, 4), 11);
    }

    private static void told() {
        BitOff x = Due.with("give 5;leave 10;half;over 6 s=0", 0, 0, 60, 0, 0, 55, 3, 1, 70);
        int[] answers = {0, 0, 5, 10, 1, 15, 0};
        for (int what = 0; what < 7; what++) due.is("9: told(" + what + ")", x.told(what), answers[what]);
        due.is("9: none -1", x.told(-1), -1);
        due.is("9: none 7", x.told(7), -1);
        // 70 seems 15 longer than 55: half of that, cut up, is 8, and 5 more
        due.is("9: a snip", x.snip(), 2);
        due.is("9: long", x.of(2, 2), 57);
        due.is("9: SNIP", x.told(0), 1);
        due.is("9: not DONE", x.told(6), 0);
        x.set(0, 59);
        due.is("9: 10 is DONE", x.told(6), 1);
        x.set(0, 60);
        due.is("9: 11 is not", x.told(6), 0);
        x.pass(3);
        due.is("9: DAY", x.told(1), 3);
        due.is("9: OFF", x.told(5), 5);
        due.is("9: one alone is DONE", Due.with("leave 0", 0, 0, 9).told(6), 1);
        due.is("9: one alone is not off", Due.with(0, 0, 9).told(5), 0);
        due.is("9: alike are DONE", Due.with("leave 0", 0, 0, 9, 0, 0, 9).told(6), 1);
        due.is("9: one more is not DONE", Due.with("leave 0", 0, 0, 9, 0, 0, 10).told(6), 0);
    }
}
