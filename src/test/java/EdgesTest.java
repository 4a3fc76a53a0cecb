/**
 * The numbers that the document names as the least and the most, just inside and just outside,
 * the empty case, the full case, and what wraps around. (What is refused: RefusalTest.)
 */
public final class EdgesTest {
    private static final Due due = new Due();
    private static final int LEAST = Integer.MIN_VALUE, GREATEST = Integer.MAX_VALUE;

    public static void main(String[] args) {
        vAndLong();
        cut();
        texts();
        clauses();
        numbers();
        letters();
        looksBelowNothing();
        blanks();
        brackets();
        kitchensHold();
        lastSnip();
        beyondLastDay();
        beyondLongest();
        ahead();
        days();
        lastRows();
        traces();
        longTapes();
        nobody();
        oneAlone();
        legs();
        wraps();
        items();
        due.end();
    }

    // ---- promises 2 to 6: v, LONG, CUT

    private static void vAndLong() {
        for (int kind = 0; kind < 7; kind++) {
            for (int v : new int[] {0, 9}) {
                for (int length : new int[] {0, 999}) {
                    BitOff x = new BitOff();
                    due.is("2: kind " + kind + ", v " + v + ", " + length, x.side(kind, v, length), 0);
                    due.is("3: kind", x.of(0, 0), kind);
                    due.is("3: v", x.of(0, 1), v);
                    due.is("3: LONG", x.of(0, 2), length);
                    due.is("3: CUT", x.of(0, 3), 0);
                    due.is("3: LOOKS without a KITCHEN", x.of(0, 4), length);
                    int grows = kind == 3 || kind == 6 ? v : kind == 4 ? v / 2 : 0;
                    due.is("3: GROWS", x.of(0, 5), grows);
                    due.is("4: never more than LONG", x.taken(0, 999), kind == 2 || kind == 5 ? Math.min(length, 500 + (kind == 5 ? v : 0)) : length);
                }
            }
        }
        // half of v, cut: of 1 and 9; half of what of SIDE is, cut: of an odd and an even one
        due.is("4: springy by v 1", Due.with(1, 1, 99).taken(0, 0), 1);
        due.is("4: springy by v 9", Due.with(1, 9, 99).taken(0, 0), 5);
        due.is("4: stiff by 3 and 1", Due.with(2, 9, 99).taken(0, 3), 2);
        due.is("4: stiff by 4 and 1", Due.with(2, 9, 99).taken(0, 4), 2);
        due.is("4: brittle by 4 and 1", Due.with(5, 9, 99).taken(0, 4), 11);
        due.is("4: curly, twice of both", Due.with(4, 9, 51).taken(0, 4), 18);
        due.is("4: curly of 50, once", Due.with(4, 9, 50).taken(0, 4), 9);
        due.is("4: just LONG", Due.with(0, 0, 10).taken(0, 9), 10);
        due.is("4: not more than LONG", Due.with(0, 0, 10).taken(0, 10), 10);
        due.is("4: of nothing", Due.with(0, 0, 0).taken(0, 0), 0);
        BitOff told = Due.with("give 0", 6, 0, 999);
        due.is("6: n 0", told.row(0, 0, 0), 0);
        due.is("6: n 9", told.row(0, 3, 9), 0);
        due.is("6: n 9 was", told.row(0, 3, 0), 9);
    }

    private static void cut() {
        BitOff x = Due.with("leave 0;give 0", 0, 0, 999, 0, 0, 0);
        for (int i = 0; i < 100; i++) {
            x.set(0, 999);
            x.snip();
        }
        due.is("3: CUT of 100 times 999", x.of(0, 3), 99900);
        x.set(0, 98);
        x.snip();
        due.is("3: CUT just inside", x.of(0, 3), 99998);
        x.set(0, 1);
        x.snip();
        due.is("3: CUT at its most", x.of(0, 3), 99999);
        x.set(0, 1);
        due.is("12: CUT more by one", x.on(1, 1), 1);
        due.is("31: CUT more by none", x.planned(1), 0);
        x.plan(0);
        due.is("31: CUT more by one", x.planned(1), 1);
        due.is("10: goes beyond", x.snip(), 0);
        due.is("3: CUT stays at its most", x.of(0, 3), 99999);
        due.is("3: and LONG goes on", x.of(0, 2), 0);
    }

    // ---- promises 7 and 8: THE TEXT, CLAUSES

    private static void good(String text) {
        due.is("8: good " + text, Due.read(new BitOff(), text), 0);
    }

    private static void fault(String text, int place) {
        due.is("8: fault of " + text, Due.read(new BitOff(), text), -10 - place);
    }

    private static void texts() {
        String early = "over 7 s=0" + "|s=0".repeat(22) + ";a";
        due.is("8: of 100 bytes", early.length(), 100);
        fault(early, 100);
        String text = "over 77 s=00" + "|s=0".repeat(22);
        due.is("8: of 100 bytes", text.length(), 100);
        BitOff x = Due.with(0, 0, 5, 0, 0, 5);
        for (int i = 0; i < 100; i++) due.is("7: so many", x.feed(text.charAt(i)), i + 1);
        due.is("7: one more", x.feed('0'), -4);
        due.is("7: all of them", x.count(5), 100);
        due.is("8: all of them", x.kitchen(), 0);
        due.is("8: as it reads", x.of(0, 4), 82);
        due.is("8: as it reads", x.of(1, 4), 5);
        due.is("7: empty again", x.feed('a'), 1);
        BitOff odd = new BitOff();
        due.is("7: sign 0", odd.feed(0), 1);
        due.is("8: sign 0 is none", odd.kitchen(), -10);
        odd.feed('a');
        odd.feed('l');
        odd.feed('l');
        due.is("7: sign 127", odd.feed(127), 4);
        due.is("8: sign 127 is none", odd.kitchen(), -13);
        due.is("8: the end of no TEXT", odd.kitchen(), -10);
    }

    private static void clauses() {
        BitOff x = Due.with("over 1 s=0;over 2 s=0;over 3 s=0;under 1 s=1;over 4 s=0;under 9 s=1;over 5 s=0;give 4;over 60 s=0", 0, 0, 5, 0, 0, 5);
        due.is("3: nine CLAUSES", x.of(0, 4), 5 + 75);
        due.is("3: nine CLAUSES, the others", x.of(1, 4), 5 - 10);
        BitOff most = Due.with("over 1 s=0;over 9 s=0;over 9 s=0;over 9 s=0;over 9 s=0;over 9 s=0;over 9 s=0;give 7;all;half", 0, 0, 5);
        due.is("3: ten CLAUSES", most.of(0, 4), 5 + 55);
        due.is("9: ten CLAUSES, the eighth", most.told(2), 7);
        due.is("9: ten CLAUSES, the tenth", most.told(4), 1);
        good("half");
        good("all;all;all;all;all;all;all;all;all;half");
        fault("all;all;all;all;all;all;all;all;all;half;", 40);
        fault("all;all;all;all;all;all;all;all;all;half;all", 40);
        fault("give 1;give 2;give 3;give 4;give 5;give 6;give 7;give 8;give 9;give 0;give 1", 69);
        fault(";all", 0);
        fault("all;;all", 4);
        fault("all;", 4);
    }

    private static void numbers() {
        for (String word : new String[] {"give ", "leave "}) {
            int told = word.equals("give ") ? 2 : 3;
            for (String n : new String[] {"0", "9", "00", "09", "10", "99"}) {
                due.is("9: " + word + n, Due.with(word + n).told(told), Integer.parseInt(n));
            }
            fault(word, word.length());
            fault(word + ";", word.length());
            fault(word + "100", word.length() + 2);
            fault(word + "000", word.length() + 2);
            fault(word + "-1", word.length());
            fault(word + "1-", word.length() + 1);
            // the signs just beside the digits
            fault(word + "/", word.length());
            fault(word + ":", word.length());
            fault(word + "1/", word.length() + 1);
            fault(word + "1:", word.length() + 1);
        }
        for (String n : new String[] {"0", "9", "00", "09", "10", "99"}) {
            int much = Integer.parseInt(n);
            due.is("3: over " + n, Due.with("over " + n + " s=0", 0, 0, 7).of(0, 4), 7 + much);
            due.is("3: under " + n, Due.with("under " + n + " s=0", 0, 0, 7).of(0, 4), 7 - much);
            due.is("3: s<" + n, Due.with("over 1 s<" + n, 0, 0, 7).of(0, 4), much > 0 ? 8 : 7);
            due.is("3: v=" + n, Due.with("over 1 v=" + n, 0, 9, 7).of(0, 4), much == 9 ? 8 : 7);
            due.is("3: l>" + n, Due.with("over 1 l>" + n, 0, 9, 999).of(0, 4), much < 99 ? 1000 : 999);
        }
        for (String test : new String[] {"s=", "k<", "v>", "l=", "n<", "d>"}) {
            int at = 7 + test.length();
            fault("over 1 " + test, at);
            fault("over 1 " + test + ";", at);
            fault("over 1 " + test + "100", at + 2);
            good("over 1 " + test + "99");
            good("over 1 " + test + "0");
        }
        // each letter of its own, and none beside
        for (char letter = 'a'; letter <= 'z'; letter++) {
            if ("skvlnd".indexOf(letter) >= 0) good("over 1 " + letter + "=1");
            else fault("over 1 " + letter + "=1", 7);
        }
        for (char sign = 1; sign < 128; sign++) {
            if ("<=>".indexOf(sign) >= 0) good("over 1 s" + sign + "1");
            else fault("over 1 s" + sign + "1", 8);
        }
    }

    /** So many SNIPS and DAYS went, and SIDE 5 is as told. */
    private static BitOff fifthBehind(int snips, int days, int kind, int v, int length) {
        BitOff x = Due.with(0, 0, 0, 0, 0, 0);
        for (int i = 0; i < snips; i++) {
            x.set(0, 99);
            x.snip();
        }
        x.pass(days);
        for (int s = 2; s < 5; s++) x.side(0, 0, 0);
        x.side(kind, v, length);
        return x;
    }

    /** Each letter of SIDE 5 tells its own number, which is none of the others' here. */
    private static void letters() {
        int[] early = {5, 1, 3, 2, 7, 9};
        int[] late = {5, 6, 9, 4, 3, 8};
        for (int i = 0; i < 6; i++) {
            char letter = "skvlnd".charAt(i);
            holds(letter, early[i], () -> fifthBehind(7, 9, 1, 3, 29));
            holds(letter, late[i], () -> fifthBehind(13, 18, 6, 9, 40));
        }
        for (char letter : "vlnd".toCharArray()) {
            for (String test : new String[] {"<1", "=0", "=00", "!>0", "!<0"}) {
                due.is("3: 0 of " + letter + test, longer(letter, test, fifthBehind(10, 20, 6, 0, 9)), 50);
                due.is("3: 1 of " + letter + test, longer(letter, test, fifthBehind(11, 21, 0, 1, 10)), test.equals("!<0") ? 50 : 0);
            }
        }
        String[] none = {"=1", "<1", ">1", "1", "=", "|s=1", "&s=1", ")", "s1", "s", "d!", "k;"};
        for (String test : none) {
            int at = Character.isLetter(test.charAt(0)) ? 1 : 0;
            fault("over 1 " + test, 7 + at);
            fault("over 1 s=1|" + test, 11 + at);
            fault("over 1 s=1&" + test, 11 + at);
            fault("over 1 !(" + test, 9 + at);
        }
    }

    private interface Maker {
        BitOff make();
    }

    /** The letter tells just so much: not by 1 more, nor by 1 less. */
    private static void holds(char letter, int much, Maker maker) {
        String[] so = {"<" + (much + 1), "=" + much, ">" + (much - 1), "<99", "!<0"};
        String[] notSo = {"<" + much, "=" + (much + 1), "=" + (much - 1), ">" + much, "<0", ">99", "!>0"};
        for (String test : so) due.is("3: " + letter + test + " holds", longer(letter, test, maker.make()), 50);
        for (String test : notSo) due.is("3: " + letter + test + " does not hold", longer(letter, test, maker.make()), 0);
    }

    private static int longer(char letter, String test, BitOff x) {
        String e = test.charAt(0) == '!' ? "!" + letter + test.substring(1) : letter + test;
        due.is("8: " + e, Due.read(x, "over 50 " + e), 0);
        return x.of(5, 4) - x.of(5, 2);
    }

    /** All LOOK below 0: still one LOOKS longest and one shortest. */
    private static void looksBelowNothing() {
        BitOff x = Due.with("under 99 s<6", 0, 0, 5, 0, 0, 40, 0, 0, 20);
        due.is("3: LOOKS below 0", x.of(1, 4), -59);
        due.is("9: not DONE", x.told(6), 0);
        due.is("10: the longest of those", x.snip(), 1);
        due.is("10: by 35, and 1", x.of(1, 2), 4);
        due.is("10: then the next", x.snip(), 2);
        // 16 longer than the 4, and 1
        due.is("10: by 16, and 1", x.of(2, 2), 3);
        due.is("10: DONE", x.snip(), -5);
        BitOff y = Due.with("under 50 s=1;leave 9", 0, 0, 9, 0, 0, 50);
        due.is("9: 0 and 9 are DONE by 9", y.told(6), 1);
        y.set(1, 49);
        due.is("9: -1 and 9 are not", y.told(6), 0);
        due.is("10: as it LOOKS", y.snip(), 0);
    }

    private static void blanks() {
        fault(" all", 0);
        fault("all ", 3);
        fault("all ;all", 3);
        fault("all; all", 4);
        fault("give  1", 5);
        fault("give 1 ;all", 6);
        fault("leave\t1", 5);
        fault("over 1  s=1", 7);
        fault("under  1 s=1", 6);
        fault("over 1 s =1", 8);
        fault("over 1 s= 1", 9);
        fault("over 1 s=1 &s=1", 10);
        fault("over 1 s=1& s=1", 11);
        fault("over 1 ! s=1", 8);
        fault("over 1 ( s=1)", 8);
        fault("over 1 (s=1 )", 11);
        fault("over s=1", 5);
        fault("over 1s=1", 6);
        fault("half;over 1", 11);
    }

    private static void brackets() {
        String[] within = {"((((s=0))))", "!!!!s=0", "(!(!s=0))", "!(!(s=0))", "((!!s=0))", "!!((s=0))"};
        for (String e : within) {
            BitOff x = Due.with("over 5 " + e, 0, 0, 1, 0, 0, 1);
            due.is("3: four of " + e, x.of(0, 4), 6);
            due.is("3: four of " + e + ", not the other", x.of(1, 4), 1);
        }
        String[] beyond = {"(((((s=0)))))", "!!!!!s=0", "((((!s=0))))", "!!!!(s=0)", "(!(!(s=0)))", "!(!(!s=0))"};
        for (String e : beyond) fault("over 5 " + e, 11);
        // those beside one another are not within one another
        good("over 5 ((((s=0))))&((((s=0))))|!!!!s=0&!!!!s=1");
        good("over 5 (s=0)&(s=0)&(s=0)&(s=0)&(s=0)&(s=0)");
        good("over 5 (((!s=0&!s=1)|(s=0))|!(s=1))&!s=1");
        fault("over 5 ((((s=0&(s=1)))))", 15);
        fault("over 5 ((((s=0|!s=1))))", 15);
        fault("over 5 ((((s=0", 14);
        fault("over 5 ((((s=0)))", 17);
        fault("over 5 ((((s=0)))))", 18);
        fault("over 5 ((((", 11);
        fault("over 5 !!!!", 11);
        fault("over 5 ((((;", 11);
    }

    /** Six KITCHENS, the newest one holds; without one there are no CLAUSES. */
    private static void kitchensHold() {
        BitOff x = Due.with(0, 0, 50, 0, 0, 52);
        due.is("9: GIVE without", x.told(2), 1);
        due.is("9: LEAVE without", x.told(3), 2);
        due.is("9: not HALF without", x.told(4), 0);
        due.is("9: DONE by the LEAVE without", x.told(6), 1);
        x.set(1, 53);
        due.is("9: one more is not DONE", x.told(6), 0);
        for (int i = 0; i < 6; i++) {
            due.is("8: number", Due.read(x, "give " + (i + 3) + ";over " + (i + 1) + " s=1"), i);
            due.is("8: so many", x.count(1), i + 1);
            due.is("9: the newest GIVE", x.told(2), i + 3);
            due.is("3: the newest LOOKS", x.of(1, 4), 54 + i);
        }
        due.is("8: the seventh", Due.read(x, "all"), -4);
        due.is("8: the sixth holds", x.of(1, 4), 59);
        due.is("8: six", x.count(1), 6);
        due.is("7: THE TEXT stays", x.feed(';'), 4);
    }

    // ---- promises 10 to 15: SNIPS, DAYS

    /** SNIP gets to 9999 only beyond the 512 calls that are promised: its bound is looked at all the same. */
    private static void lastSnip() {
        BitOff x = Due.with("over 9 s=0;over 50 n=9&s=1", 0, 0, 0, 0, 0, 0);
        int wrong = 0;
        for (int i = 0; i < 9998; i++) {
            if (x.snip() != (i % 10 == 9 ? 1 : 0)) wrong++;
        }
        due.is("10: all SNIPS up to 9998", wrong, 0);
        due.is("10: 9998", x.told(0), 9998);
        due.is("10: one more", x.snip(), 0);
        due.is("10: 9999", x.told(0), 9999);
        x.set(1, 60);
        due.is("10: above 9999", x.snip(), -3);
        due.is("10: it stays", x.told(0), 9999);
        due.is("10: LONG stays", x.of(1, 2), 60);
        due.is("10: CUT stays", x.of(1, 3), 0);
        // what is asked goes on: n is 9 by the first, then 0
        due.is("12: SNIPS beyond 9999", x.on(1, 11), 0);
        due.is("12: CUT by it", x.on(1, 1), 60);
        due.is("15: which one beyond", x.sides(2), 3);
        due.is("13: it never ends", x.ends(), -5);
        x.plan(0);
        due.is("31: beyond 9999", x.planned(1), 60);
        x.see(60);
        due.is("27: beyond 9999", x.now(), 1);
        due.is("11: DAYS go on", x.pass(1), 1);
        Due.read(x, "leave 99");
        due.is("10: DONE is named ahead of 9999", x.snip(), -5);
        due.is("13: and it is at once", x.ends(), 0);
    }

    private static void beyondLastDay() {
        BitOff x = Due.with("over 40 d=0&s=1;leave 30", 3, 1, 0, 0, 0, 60);
        for (int i = 0; i < 101; i++) x.pass(99);
        due.is("11: 9999", x.told(1), 9999);
        x.set(0, 50);
        due.is("11: above it", x.pass(1), -3);
        due.is("11: LONG stays", x.of(0, 2), 50);
        due.is("24: DAYS beyond 9999", x.reaches(0, 149), 99);
        due.is("24: and no more than 99", x.reaches(0, 150), -5);
        due.is("23: DAYS beyond 9999", x.grown(0), 10);
        x.plan(0);
        due.is("31: DONE on DAY 9999", x.planned(1), 0);
        x.plan(1);
        x.plan(0);
        // d is 0 on DAY 10000: it seems 49 longer than the 51
        due.is("31: DAY 10000", x.planned(1), 50);
    }

    private static void beyondLongest() {
        BitOff x = Due.with("leave 99;over 99 l>99;give 0", 0, 0, 999, 0, 0, 999);
        due.is("3: l is 99 at most as it is", x.of(0, 4), 999);
        // 1004 has an l of 100, which is above 99: by 104 it seems longer, and all 104 are off
        due.is("28: 104 off", x.odds(98, 0), 0);
        due.is("28: LONG beyond 999", x.odds(99, 0), 1);
        BitOff most = Due.with("leave 99", 0, 0, 994, 0, 0, 995, 0, 0, 994);
        due.is("28: up to 1000", most.odds(5, 0), 2);
        due.is("28: by three", most.odds(5, 1), 3);
        BitOff pad = Due.with(0, 0, 999, 0, 0, 900);
        due.is("20: up to 999", pad.pad(), 199);
        pad.set(1, 899);
        due.is("20: 99 of 100", pad.pad(), 199);
        pad.set(1, 998);
        due.is("20: 1 of 1", pad.pad(), 101);
        pad.set(1, 999);
        due.is("20: none of 0", pad.pad(), -5);
    }

    private static void ahead() {
        // 2 each of the one that is 1 longer
        BitOff y = Due.with("leave 0", 0, 0, 999, 0, 0, 998);
        for (int n = 0; n <= 60; n++) {
            due.is("12: CUT more of " + n, y.on(n, 1), 2 * n);
            due.is("12: OFF of " + n, y.on(n, 0), 1);
            due.is("12: LONG of " + n, y.on(n, 10), 999 - (n + 1) / 2 * 2);
            due.is("14: SHORT of " + n, y.shortest(n), 998 - n / 2 * 2 - n % 2);
            if (n > 0) due.is("15: SIDES of " + n, y.sides(n), n == 1 ? 1 : 3);
            due.is("29: MEAN of " + n, y.mean(n, 0), 1997 - 2 * n);
            due.is("29: MEAN of " + n, y.mean(n, 1), 2);
        }
        due.is("12: 61", y.on(61, 1), -2);
        due.is("14: 61", y.shortest(61), -2);
        due.is("15: 61", y.sides(61), -2);
        due.is("15: 0", y.sides(0), -2);
        due.is("29: 61", y.mean(61, 0), BitOff.NO);
        due.is("13: not by 60", y.ends(), -5);
        BitOff six = Due.with("leave 0;give 0", 0, 0, 60, 1, 0, 61, 0, 0, 62, 0, 0, 63, 3, 0, 64, 0, 0, 0);
        due.is("15: five of six", six.sides(60), 31);
        due.is("15: one of six", six.sides(1), 16);
        due.is("15: two of six", six.sides(2), 24);
        due.is("29: MEAN of six, above", six.mean(4, 0), 10);
        due.is("29: MEAN of six, below", six.mean(4, 1), 1);
        due.is("28: all six", six.odds(0, 0), 1);
        due.is("28: all six, below", six.odds(0, 1), 1);
    }

    private static void days() {
        BitOff x = Due.with(3, 9, 0, 3, 0, 900, 4, 9, 0, 4, 1, 0);
        due.is("24: 99 DAYS of 9", x.reaches(0, 891), 99);
        due.is("24: 100 DAYS of 9", x.reaches(0, 892), -5);
        due.is("24: v 0 never grows", x.reaches(1, 901), -5);
        due.is("24: curly by 4", x.reaches(2, 396), 99);
        due.is("24: curly by 4, no more", x.reaches(2, 397), -5);
        due.is("24: curly by 0", x.reaches(3, 1), -5);
        due.is("24: h 0", x.reaches(3, 0), 0);
        due.is("11: 99 go", x.pass(99), 99);
        due.is("11: so far", x.of(0, 2), 891);
        due.is("24: h 999", x.reaches(0, 999), 12);
        due.is("11: 11 go", x.pass(11), 110);
        due.is("11: to 990", x.of(0, 2), 990);
        due.is("11: 1 goes", x.pass(1), 111);
        due.is("11: just 999", x.of(0, 2), 999);
        due.is("11: none goes", x.pass(0), 111);
        due.is("11: one more", x.pass(1), 112);
        due.is("11: no longer than 999", x.of(0, 2), 999);
        due.is("23: q 999", x.grown(999), 0);
        BitOff y = Due.with(3, 5, 0, 0, 0, 495);
        due.is("23: 99 DAYS", y.grown(0), 99);
        y.set(1, 496);
        due.is("23: 1 OFF by 99 DAYS", y.grown(1), 99);
        due.is("23: 0 OFF by 100 DAYS", y.grown(0), -5);
    }

    // ---- promises 25 to 33: the last row that fits

    private static void lastRows() {
        BitOff x = Due.with("leave 0", 0, 0, 60, 0, 0, 59);
        for (int i = 0; i < 4; i++) x.see(2);
        due.is("27: four", x.now(), 1);
        due.is("25: the fifth", x.see(3), 5);
        due.is("27: the fifth is not so", x.now(), 0);
        due.is("26: nor by any LONG", x.was(0, 0), 0);
        for (int i = 0; i < 9; i++) x.plan(1);
        due.is("31: nine DAYS", x.planned(1), 0);
        due.is("30: the tenth", x.plan(0), 10);
        due.is("31: the tenth goes", x.planned(1), 2);
        for (int i = 0; i < 7; i++) x.book(i % 2, 60 - i % 2);
        due.is("33: seven as told", x.looked(), -5);
        due.is("32: the eighth", x.book(1, 60), 8);
        due.is("33: the eighth is otherwise", x.looked(), 7);
        due.is("32: refused", x.book(0, 0), -4);
        due.is("33: the eighth still", x.looked(), 7);
        BitOff most = Due.with("leave 0;give 0", 0, 0, 999, 0, 0, 0);
        due.is("25: 999", most.see(999), 1);
        due.is("27: 999 are TAKEN", most.now(), 1);
        most.book(0, 999);
        most.book(1, 0);
        due.is("33: 999 and 0", most.looked(), -5);
        BitOff none = Due.with("over 9 s=0", 0, 0, 0, 0, 0, 0);
        none.see(0);
        due.is("27: 0 are TAKEN", none.now(), 1);
        // it seems longer by 9 than it is, so that all of it is TAKEN
        due.is("26: by 0 alone", none.was(0, 0), 1);
        due.is("26: by 0", none.was(0, 1), 0);
        BitOff edge = Due.with("leave 0;give 0", 0, 0, 0, 0, 0, 0);
        edge.see(99);
        due.is("26: LONG 99", edge.was(1, 1), 99);
        due.is("26: it alone", edge.was(1, 0), 1);
        edge.see(-1);
        edge.see(100);
        due.is("26: not LONG 100", edge.was(1, 1), -5);
        due.is("26: none of them", edge.was(1, 0), 0);
    }

    // ---- promises 37 to 40: THE TRACE

    /** No KIND runs more than twelve bodies, so the twenty are never reached; all are kept. */
    private static void traces() {
        int[] most = {3, 4, 4, 6, 6, 5, 12};
        for (int kind = 0; kind < 7; kind++) {
            BitOff x = Due.with(kind, 9, 5);
            x.act(0, 2, -7);
            int ran = x.count(6);
            due.is("40: bodies of kind " + kind, ran, most[kind]);
            for (int i = 0; i < ran; i++) due.is("38: kept " + i, x.trace(i) >= 10 ? 1 : 0, 1);
            for (int i = ran; i < 22; i++) due.is("38: no " + i, x.trace(i), -1);
        }
    }

    // ---- promises 34, 41 to 44: TAPES of 60

    private static void longTapes() {
        BitOff x = Due.with(0, 0, 1, 1, 1, 2, 2, 2, 3, 3, 3, 4, 4, 4, 5, 5, 5, 6);
        for (int sort = 0; sort < 5; sort++) {
            due.is("41: 60 of sort " + sort, x.tape(sort, sort, 60), 1);
            due.is("42: the last", x.item(sort, 59, 1), 1);
            due.is("42: one beyond", x.item(sort, 60, 1), -13);
            due.is("43: the last", x.read(sort, 59), 1);
            due.is("43: the one ahead", x.read(sort, 58), 0);
            due.is("43: one beyond", x.read(sort, 60), BitOff.NO);
            due.is("41: another of 60", x.tape(5, sort, 60), 1);
            due.is("44: all 60", x.shift(sort, 0, 5, 0, 60), 60);
            due.is("44: the last came", x.read(5, 59), 1);
            due.is("44: 61", x.shift(sort, 0, 5, 0, 61), -13);
            due.is("41: 0 of sort " + sort, x.tape(5, sort, 0), 1);
            due.is("44: none to a row of none", x.shift(sort, 60, 5, 0, 0), 0);
            due.is("44: one to a row of none", x.shift(sort, 0, 5, 0, 1), -13);
            due.is("42: a row of none", x.item(5, 0, 1), -13);
            due.is("43: a row of none", x.read(5, 0), BitOff.NO);
        }
        for (int i = 0; i < 6; i++) x.item(1, 54 + i, i + 1);
        due.is("34: the last six places", x.judge(1, 54), -5);
        due.is("34: one place later", x.judge(1, 55), 0);
        for (int i = 0; i < 5; i++) x.item(1, 55 + i, i + 1);
        due.is("34: the row ends ahead of the sixth", x.judge(1, 55), 105);
        due.is("34: and one place later it is otherwise", x.judge(1, 56), 0);
        x.item(1, 59, 1);
        due.is("34: the last place", x.judge(1, 59), 101);
        due.is("34: behind the last place", x.judge(1, 60), 100);
        due.is("34: far behind", x.judge(1, GREATEST), 100);
        due.is("34: ahead of the first", x.judge(1, -1), 100);
        due.is("34: far ahead", x.judge(1, LEAST), 100);
        x.tape(1, 1, 0);
        due.is("34: a row of none", x.judge(1, 0), 100);
        x.tape(1, -1, 60);
        due.is("34: nothing", x.judge(1, 0), 100);
        x.set(0, 999);
        x.tape(1, 1, 6);
        x.item(1, 0, 65536 + 999);
        due.is("34: its lowest bits are 999", x.judge(1, 0), 1);
        x.item(1, 0, 999 - 65536);
        due.is("34: its lowest bits are 999", x.judge(1, 0), 1);
    }

    // ---- the empty case

    private static void nobody() {
        BitOff x = new BitOff();
        int[] told = {0, 0, 1, 2, 0, 0, 1};
        for (int what = 0; what < 7; what++) due.is("9: nobody, told(" + what + ")", x.told(what), told[what]);
        due.is("11: a DAY goes", x.pass(3), 3);
        due.is("13: DONE at once", x.ends(), 0);
        for (int n : new int[] {0, 60}) {
            due.is("12: OFF", x.on(n, 0), 0);
            due.is("12: CUT", x.on(n, 1), 0);
            due.is("14: SHORT", x.shortest(n), 0);
        }
        due.is("15: SIDES", x.sides(60), 0);
        due.is("16: which", x.leaves(0), 30);
        due.is("16: OFF", x.leaves(1), 0);
        due.is("17: HALVES", x.halves(), 0);
        due.is("18: FIRST", x.first(50), -5);
        due.is("19: TWICE", x.twice(), 0);
        due.is("20: PAD", x.pad(), -5);
        due.is("23: GROWN", x.grown(0), 0);
        due.is("27: nothing is SEEN", x.now(), 1);
        x.see(0);
        due.is("27: nothing is TAKEN", x.now(), 0);
        due.is("33: no row", x.looked(), -5);
        due.is("31: no PLAN, OFF", x.planned(0), 0);
        for (int i = 0; i < 10; i++) x.plan(i % 2);
        due.is("31: OFF", x.planned(0), 0);
        due.is("31: CUT", x.planned(1), 0);
        due.is("10: nothing happened", x.snip(), -5);
        due.is("34: none to look at, nothing there", x.judge(0, 0), -5);
        x.tape(0, 1, 3);
        due.is("34: none to look at", x.judge(0, 0), -5);
        due.is("34: none to look at beyond", x.judge(0, 3), -5);
        due.is("35: IMAGE of nobody", x.image(), 0);
        x.side(0, 0, 9);
        due.is("36: nobody again", x.undo(), 0);
        due.is("36: nobody is there", x.of(0, 2), -10001);
        due.is("36: SEEN stays", x.count(2), 1);
    }

    /** Fewer than two: always DONE, and never OFF. */
    private static void oneAlone() {
        BitOff x = Due.with("leave 0;over 99 s=0;half", 3, 9, 60);
        due.is("9: OFF", x.told(5), 0);
        due.is("9: DONE", x.told(6), 1);
        due.is("10: DONE", x.snip(), -5);
        due.is("12: LONG", x.on(60, 10), 60);
        due.is("13: at once", x.ends(), 0);
        due.is("14: SHORT", x.shortest(60), 60);
        due.is("15: SIDES", x.sides(60), 0);
        due.is("16: which", x.leaves(0), 30);
        due.is("17: HALVES", x.halves(), 0);
        due.is("18: FIRST", x.first(1), 0);
        due.is("19: TWICE", x.twice(), 0);
        due.is("20: PAD", x.pad(), -5);
        due.is("23: GROWN", x.grown(0), 0);
        due.is("24: REACHES", x.reaches(0, 61), 1);
        due.is("26: nothing SEEN", x.was(0, 0), 100);
        due.is("26: the least", x.was(0, 1), 0);
        x.see(0);
        due.is("26: none is TAKEN", x.was(0, 0), 0);
        due.is("26: no least", x.was(0, 1), -5);
        due.is("28: ODDS", x.odds(0, 0), 1);
        due.is("29: MEAN", x.mean(60, 0), 60);
        // a second one, and it is not DONE any more
        x.side(0, 0, 60);
        due.is("9: two are not DONE", x.told(6), 0);
        due.is("10: it goes", x.snip(), 0);
    }

    /** Fewer than four make no stool. */
    private static void legs() {
        BitOff x = new BitOff();
        for (int n = 0; n < 4; n++) {
            due.is("21: " + n + " legs", x.wobbles(), -5000);
            due.is("22: " + n + " legs", x.leg(), -5);
            x.side(0, 0, n == 0 ? 999 : 0);
        }
        due.is("21: four legs", x.wobbles(), 999);
        due.is("22: all of it", x.leg(), 999);
        x.set(2, 999);
        due.is("21: the most", x.wobbles(), 1998);
        due.is("22: not LONG enough", x.leg(), -5);
        x.set(1, 999);
        due.is("22: all of it, of alike ones the first", x.leg(), 999);
        x.set(3, 998);
        due.is("22: by 1", x.leg(), 1);
        x.set(3, 999);
        due.is("21: it stands", x.wobbles(), 0);
        due.is("22: it stands", x.leg(), -5);
        x.set(0, 998);
        due.is("21: by 1 below", x.wobbles(), -1);
        due.is("22: by 1 below, the first", x.leg(), 1001);
        x.set(0, 0);
        due.is("22: just LONG enough below", x.leg(), 1999);
        x.set(2, 998);
        due.is("22: not LONG enough below", x.leg(), -5);
        x.set(1, 998);
        due.is("22: the LONGER one below", x.leg(), 3999);
        x.side(0, 0, 77);
        x.side(0, 0, 78);
        due.is("21: a fifth and a sixth are no legs", x.wobbles(), -999);
    }

    // ---- what wraps around

    private static BitOff fifth(int kind, int v) {
        BitOff x = Due.with(0, 0, 0, 0, 0, 0, 0, 0, 0, 0, 0, 0, 0, 0, 0);
        x.side(kind, v, 0);
        return x;
    }

    private static void act(int kind, int act, int x, int want) {
        due.is("37: kind " + kind + ", act " + act + " with " + x, fifth(kind, 9).act(5, act, x), want);
    }

    /** i is 5, v is 9. */
    private static void wraps() {
        act(0, 0, GREATEST - 5, GREATEST);
        act(0, 0, GREATEST - 4, LEAST);
        act(0, 0, LEAST, LEAST + 5);
        act(0, 1, LEAST + 4, LEAST);
        act(0, 1, LEAST + 3, GREATEST);
        act(0, 2, (1 << 30) + 4, LEAST);
        act(0, 2, (1 << 30) + 3, GREATEST - 1);
        act(0, 2, LEAST, -8);
        act(1, 1, GREATEST, (GREATEST - 4) ^ 6);
        act(1, 1, LEAST, (GREATEST - 3) ^ 6);
        act(1, 2, GREATEST, 2 * ((GREATEST - 4) ^ 6));
        act(2, 0, 715827883, LEAST + 6);
        act(2, 0, LEAST, LEAST + 5);
        act(2, 1, LEAST, LEAST - 4);
        act(2, 2, GREATEST, 2 * (3 * GREATEST - 4));
        // falls(1) is -3
        act(3, 2, (1 << 30) + 4, LEAST - 3);
        act(4, 0, LEAST, GREATEST - 4);
        act(4, 0, LEAST - 5, LEAST);
        act(4, 1, GREATEST, (-(LEAST + 5) - 9) ^ 6);
        act(4, 2, GREATEST, 2 * ((-(LEAST + 5) - 9) ^ 6));
        act(5, 2, LEAST, 2 * (3 * (LEAST - 5) - 4));
        act(5, 2, LEAST + 5, 2 * (LEAST - 4));
        act(6, 0, GREATEST, (LEAST + 4) ^ 9);
        act(6, 0, -5, 9);
        // super.hangs(2) is 7
        act(6, 1, GREATEST, ((LEAST + 4) ^ 9) - 2);
        // falls(1) is (6 ^ 9) - 2
        act(6, 2, GREATEST, 2 * (((LEAST + 4) ^ 9) - 2) + 13);
        due.is("37: hangs with v 0", fifth(6, 0).act(5, 0, 4), 9);
    }

    private static void items() {
        BitOff x = new BitOff();
        for (int sort = 0; sort < 5; sort++) x.tape(sort, sort, 1);
        long[] told = {0, 1, 127, 128, 255, 256, -1, -128, -129, 32767, 32768, 65535, 65536, -32768, -32769,
            GREATEST, GREATEST + 1L, 0xFFFF_FFFFL, 1L << 32, LEAST, LEAST - 1L, Long.MAX_VALUE, Long.MIN_VALUE};
        for (long v : told) {
            for (int sort = 0; sort < 5; sort++) due.is("42: " + v + " to sort " + sort, x.item(sort, 0, v), 1);
            due.is("42: a byte of " + v, x.read(0, 0), Math.floorMod(v + 128, 256L) - 128);
            due.is("42: a short of " + v, x.read(1, 0), Math.floorMod(v + 32768, 65536L) - 32768);
            due.is("42: an int of " + v, x.read(2, 0), v << 32 >> 32);
            due.is("42: a long of " + v, x.read(3, 0), v);
            due.is("42: a boolean of " + v, x.read(4, 0), v == 0 ? 0 : 1);
        }
    }
}
