import java.util.Random;

/** Random runs of calls on a BitOff and on the Model: both must answer the same. */
public final class ModelTest {
    private static final Due due = new Due();
    private static final int RUNS = 400, CALLS = 512, CALL_KINDS = 47;

    private final Random random;
    private final BitOff x = new BitOff();
    private final Model m = new Model();
    private final int run;
    private int calls = 0;

    private ModelTest(int run) {
        this.run = run;
        random = new Random(1000 + run);
    }

    public static void main(String[] args) {
        for (int run = 0; run < RUNS; run++) new ModelTest(run).go();
        due.end();
    }

    private void go() {
        int begin = random.nextInt(7);
        for (int i = 0; i < begin; i++) side();
        while (calls < CALLS) call(random.nextInt(CALL_KINDS));
    }

    private void same(String call, long got, long want) {
        calls++;
        due.is("run " + run + ", call " + calls + ": " + call, got, want);
    }

    /** From a to b, and now and then a little beyond, or far beyond. */
    private int near(int a, int b) {
        int chance = random.nextInt(40);
        if (chance == 0) return a - 1;
        if (chance == 1) return b + 1;
        if (chance == 2) return random.nextInt();
        if (chance == 3) return a;
        if (chance == 4) return b;
        return a + random.nextInt(b - a + 1);
    }

    private int length() {
        return random.nextInt(3) == 0 ? near(0, 999) : near(0, 99);
    }

    private int aSide() {
        int most = m.all.sides.size() - 1;
        return random.nextInt(20) == 0 ? near(0, 5) : near(0, Math.max(most, 0));
    }

    private void side() {
        int kind = near(0, 6);
        int v = near(0, 9);
        int length = length();
        same("side(" + kind + ", " + v + ", " + length + ")", x.side(kind, v, length), m.side(kind, v, length));
    }

    private String number() {
        return "" + (random.nextInt(3) == 0 ? random.nextInt(100) : random.nextInt(10));
    }

    private String test() {
        return "" + "skvlnd".charAt(random.nextInt(6)) + "<=>".charAt(random.nextInt(3)) + number();
    }

    private String expression(int deep) {
        switch (random.nextInt(deep > 3 ? 3 : 7)) {
            case 3: return "!" + (random.nextBoolean() ? test() : "(" + expression(deep + 1) + ")");
            case 4: return "(" + expression(deep + 1) + ")";
            case 5: return expression(deep + 1) + "|" + expression(deep + 1);
            case 6: return expression(deep + 1) + "&" + expression(deep + 1);
            default: return test();
        }
    }

    private String clause() {
        switch (random.nextInt(9)) {
            case 0: return "give " + random.nextInt(10);
            case 1: return "leave " + random.nextInt(12);
            case 2: return "half";
            case 3: return "all";
            case 4: return "give " + number();
            case 5: return "under " + number() + " " + expression(0);
            default: return "over " + number() + " " + expression(0);
        }
    }

    private String text() {
        StringBuilder text = new StringBuilder(clause());
        while (text.length() < 60 && random.nextInt(4) > 0) text.append(';').append(clause());
        if (random.nextInt(3) == 0) spoil(text);
        return text.substring(0, Math.min(100, text.length()));
    }

    private void spoil(StringBuilder text) {
        String signs = "ovrundegilavhf skn<=>0123&|!();()!!" + (char) random.nextInt(128);
        for (int i = random.nextInt(3); i >= 0 && text.length() > 0; i--) {
            int at = random.nextInt(text.length());
            char sign = signs.charAt(random.nextInt(signs.length()));
            switch (random.nextInt(4)) {
                case 0: text.setCharAt(at, sign); break;
                case 1: text.insert(at, sign); break;
                case 2: text.deleteCharAt(at); break;
                default: text.setLength(at);
            }
        }
    }

    private void kitchen() {
        if (calls > CALLS - 110) return;
        String text = text();
        for (char sign : text.toCharArray()) same("feed(" + (int) sign + ")", x.feed(sign), m.feed(sign));
        same("kitchen() of " + text, x.kitchen(), m.kitchen());
    }

    private void judge() {
        int tape = near(0, 5);
        int i = near(0, 3);
        if (random.nextInt(3) > 0) {
            int n = random.nextInt(10);
            same("tape", x.tape(tape, 1, n), m.tape(tape, 1, n));
            for (Model.Side side : m.all.sides) {
                int v = random.nextInt(30) == 0 ? 7 : side.length;
                same("item", x.item(tape, i + side.number, v), m.item(tape, i + side.number, v));
            }
        }
        same("judge(" + tape + ", " + i + ")", x.judge(tape, i), m.judge(tape, i));
    }

    private void see() {
        int n = near(-1, 999);
        Model.State next = m.all.snips(m.all.seen.size());
        if (random.nextInt(3) > 0 && next.goSnip() != -5) n = next.took;
        same("see(" + n + ")", x.see(n), m.see(n));
    }

    private void book() {
        int side = near(-1, 5);
        int length = side >= 0 && side < m.all.sides.size() && random.nextInt(6) > 0 ? m.all.sides.get(side).length : length();
        same("book(" + side + ", " + length + ")", x.book(side, length), m.book(side, length));
    }

    private void shift() {
        int tape = near(0, 5);
        int i = near(0, 9);
        int other = random.nextInt(3) == 0 ? tape : near(0, 5);
        int j = near(0, 9);
        int n = near(0, 9);
        same("shift(" + tape + ", " + i + ", " + other + ", " + j + ", " + n + ")",
                x.shift(tape, i, other, j, n), m.shift(tape, i, other, j, n));
        for (int k = 0; k < 4; k++) same("read", x.read(other, j + k), m.read(other, j + k));
    }

    private void call(int which) {
        if (which < 10) sidesCall(which);
        else if (which < 20) snipsCall(which);
        else if (which < 34) bestCall(which);
        else tapesCall(which);
    }

    private void sidesCall(int which) {
        int s = aSide();
        int a = near(0, 9);
        int b = length();
        switch (which) {
            case 0: side(); break;
            case 1: same("of(" + s + ", " + a % 7 + ")", x.of(s, a % 7), m.of(s, a % 7)); break;
            case 2: same("taken(" + s + ", " + b + ")", x.taken(s, b), m.taken(s, b)); break;
            case 3: same("set(" + s + ", " + b + ")", x.set(s, b), m.set(s, b)); break;
            case 4: same("row(" + s + ", " + b % 5 + ", " + a + ")", x.row(s, b % 5, a), m.row(s, b % 5, a)); break;
            case 5: if (random.nextInt(20) == 0) same("feed(" + b + ")", x.feed(b), m.feed(b)); break;
            case 6: if (random.nextInt(8) == 0) kitchen(); break;
            default: same("told(" + a + ")", x.told(a), m.told(a));
        }
    }

    private void snipsCall(int which) {
        int n = near(0, 60);
        int what = random.nextBoolean() ? near(0, 1) : near(10, 15);
        int day = random.nextInt(3) == 0 ? near(0, 99) : near(0, 3);
        switch (which) {
            case 10: same("pass(" + day + ")", x.pass(day), m.pass(day)); break;
            case 11: same("on(" + n + ", " + what + ")", x.on(n, what), m.on(n, what)); break;
            case 12: same("ends()", x.ends(), m.ends()); break;
            case 13: same("shortest(" + n + ")", x.shortest(n), m.shortest(n)); break;
            case 14: same("sides(" + n + ")", x.sides(n), m.sides(n)); break;
            default: same("snip()", x.snip(), m.snip());
        }
    }

    private void bestCall(int which) {
        int s = aSide();
        int what = near(0, 1);
        int q = random.nextInt(3) == 0 ? length() : near(0, 12);
        int c = near(1, 99);
        int n = near(0, 60);
        switch (which) {
            case 20: same("leaves(" + what + ")", x.leaves(what), m.leaves(what)); break;
            case 21: same("halves()", x.halves(), m.halves()); break;
            case 22: same("first(" + c + ")", x.first(c), m.first(c)); break;
            case 23: same("twice()", x.twice(), m.twice()); break;
            case 24: same("pad()", x.pad(), m.pad()); break;
            case 25: same("wobbles()", x.wobbles(), m.wobbles()); break;
            case 26: same("leg()", x.leg(), m.leg()); break;
            case 27: same("grown(" + q + ")", x.grown(q), m.grown(q)); break;
            case 28: same("reaches(" + s + ", " + c + ")", x.reaches(s, 3 * c), m.reaches(s, 3 * c)); break;
            case 29: see(); break;
            case 30: same("was(" + s + ", " + what + ")", x.was(s, what), m.was(s, what)); break;
            case 31: same("now()", x.now(), m.now()); break;
            case 32: same("odds(" + q + ", " + what + ")", x.odds(q, what), m.odds(q, what)); break;
            default: same("mean(" + n + ", " + what + ")", x.mean(n, what), m.mean(n, what));
        }
    }

    private void tapesCall(int which) {
        int s = aSide();
        int what = near(-1, 1);
        int t = near(0, 5);
        int i = near(0, 9);
        long v = random.nextLong() >> random.nextInt(64);
        int k = near(0, 6);
        switch (which) {
            case 34: same("plan(" + what + ")", x.plan(what), m.plan(what)); break;
            case 35: same("planned(" + what + ")", x.planned(what), m.planned(what)); break;
            case 36: book(); break;
            case 37: same("looked()", x.looked(), m.looked()); break;
            case 38: judge(); break;
            case 39: if (random.nextInt(3) == 0) same("image()", x.image(), m.image()); break;
            case 40: if (random.nextInt(3) == 0) same("undo()", x.undo(), m.undo()); break;
            case 41: act(s, near(0, 2)); break;
            case 42: same("cast(" + s + ", " + k + ")", x.cast(s, k), m.cast(s, k)); break;
            case 43: same("count(" + k + ")", x.count(k), m.count(k)); break;
            case 44: tape(t, near(-1, 4), random.nextInt(3) == 0 ? near(0, 60) : near(0, 12)); break;
            case 45: same("item(" + t + ", " + i + ", " + v + ")", x.item(t, i, v), m.item(t, i, v)); break;
            default: shift();
        }
    }

    private void act(int s, int act) {
        int v = random.nextInt(3) == 0 ? random.nextInt() : near(-20, 20);
        same("act(" + s + ", " + act + ", " + v + ")", x.act(s, act, v), m.act(s, act, v));
        same("count(6)", x.count(6), m.count(6));
        int i = near(0, 12);
        same("trace(" + i + ")", x.trace(i), m.trace(i));
    }

    private void tape(int t, int sort, int n) {
        same("tape(" + t + ", " + sort + ", " + n + ")", x.tape(t, sort, n), m.tape(t, sort, n));
    }
}
