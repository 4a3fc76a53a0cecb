import java.math.BigInteger;
import java.util.ArrayList;
import java.util.List;
import java.util.Set;
import java.util.TreeSet;
import java.util.function.Function;
import java.util.function.IntPredicate;

/** The document said a second time, the slow way, with what the Java library and its exceptions give. */
final class Model {
    static final int NONE = -1, BAD = -2, STATE = -3, FULL = -4;
    static final long NO = Long.MIN_VALUE;

    // ---- kinds

    static class Side implements Cloneable {
        int number, v, length, cut;
        int[] row = new int[4];
        List<Integer> trace;

        int kind() { return 0; }
        int taken(int c, int give, int snip) { return c + give; }
        int grows() { return 0; }
        int hangs(int x) { trace.add(10); return x + number; }
        int falls(int x) { trace.add(11); return hangs(x) - v; }
        int tells(int x) { trace.add(12); return falls(x) * 2; }

        Side copy() {
            try {
                Side other = (Side) clone();
                other.row = row.clone();
                return other;
            } catch (CloneNotSupportedException e) {
                throw new IllegalStateException(e);
            }
        }
    }

    static class Springy extends Side {
        @Override int kind() { return 1; }
        @Override int taken(int c, int give, int snip) { return super.taken(c, give, snip) + v / 2; }
        @Override int falls(int x) { trace.add(20); return super.falls(x) ^ 6; }
    }

    static class Stiff extends Side {
        @Override int kind() { return 2; }
        @Override int taken(int c, int give, int snip) { return super.taken(c, give, snip) / 2; }
        @Override int hangs(int x) { trace.add(30); return super.hangs(x * 3); }
    }

    static class Growing extends Side {
        @Override int kind() { return 3; }
        @Override int grows() { return v; }
        @Override int tells(int x) { trace.add(40); return super.tells(x) + falls(1); }
    }

    static final class Curly extends Springy {
        @Override int kind() { return 4; }
        @Override int taken(int c, int give, int snip) {
            int once = super.taken(c, give, snip);
            return length > 50 ? once + once : once;
        }
        @Override int grows() { return v / 2; }
        @Override int hangs(int x) { trace.add(50); return -super.hangs(x); }
        @Override int falls(int x) { trace.add(51); return super.falls(x + 1); }
    }

    static final class Brittle extends Stiff {
        @Override int kind() { return 5; }
        @Override int taken(int c, int give, int snip) { return super.taken(c, give, snip) + v; }
        @Override int tells(int x) { trace.add(60); return super.tells(x - number); }
    }

    static final class ToldOne extends Growing {
        @Override int kind() { return 6; }
        @Override int taken(int c, int give, int snip) { return super.taken(c, give, snip) + row[snip % 4]; }
        @Override int falls(int x) { trace.add(70); return super.falls(x) + super.hangs(2); }
        @Override int hangs(int x) { trace.add(71); return super.hangs(x) ^ v; }
    }

    static Side newSide(int kind) {
        switch (kind) {
            case 0: return new Side();
            case 1: return new Springy();
            case 2: return new Stiff();
            case 3: return new Growing();
            case 4: return new Curly();
            case 5: return new Brittle();
            default: return new ToldOne();
        }
    }

    static final List<Class<?>> CLASSES = List.of(Side.class, Springy.class, Stiff.class, Growing.class,
            Curly.class, Brittle.class, ToldOne.class);

    // ---- kitchens

    /** Which places a part of the grammar can end at, and whether it ran out of text on the way. */
    static final class Beginnings {
        final String text;
        boolean ranOut = false;

        Beginnings(String text) { this.text = text; }

        Set<Integer> one(int at, String signs) {
            Set<Integer> ends = new TreeSet<>();
            if (at == text.length()) ranOut = true;
            else if (signs.indexOf(text.charAt(at)) >= 0) ends.add(at + 1);
            return ends;
        }

        Set<Integer> then(Set<Integer> places, Function<Integer, Set<Integer>> part) {
            Set<Integer> ends = new TreeSet<>();
            for (int place : places) ends.addAll(part.apply(place));
            return ends;
        }

        Set<Integer> word(int at, String word) {
            Set<Integer> places = Set.of(at);
            for (char sign : word.toCharArray()) places = then(places, p -> one(p, "" + sign));
            return places;
        }

        Set<Integer> number(int at) {
            Set<Integer> ends = one(at, "0123456789");
            ends.addAll(then(ends, p -> one(p, "0123456789")));
            return ends;
        }

        Set<Integer> e(int at, int within) {
            Set<Integer> ends = t(at, within);
            ends.addAll(then(then(ends, p -> one(p, "|")), p -> e(p, within)));
            return ends;
        }

        Set<Integer> t(int at, int within) {
            Set<Integer> ends = f(at, within);
            ends.addAll(then(then(ends, p -> one(p, "&")), p -> t(p, within)));
            return ends;
        }

        Set<Integer> f(int at, int within) {
            Set<Integer> ends = new TreeSet<>();
            if (within < 4) {
                ends.addAll(then(one(at, "!"), p -> f(p, within + 1)));
                ends.addAll(then(then(one(at, "("), p -> e(p, within + 1)), p -> one(p, ")")));
            }
            ends.addAll(then(then(one(at, "skvlnd"), p -> one(p, "<=>")), this::number));
            return ends;
        }

        Set<Integer> clause(int at) {
            Set<Integer> ends = new TreeSet<>();
            for (String word : List.of("over ", "under ")) {
                ends.addAll(then(then(then(word(at, word), this::number), p -> one(p, " ")), p -> e(p, 0)));
            }
            for (String word : List.of("give ", "leave ")) ends.addAll(then(word(at, word), this::number));
            ends.addAll(word(at, "half"));
            ends.addAll(word(at, "all"));
            return ends;
        }

        boolean isKitchen() {
            Set<Integer> ends = clause(0);
            boolean whole = ends.contains(text.length());
            for (int more = 2; more <= 10; more++) {
                ends = then(then(ends, p -> one(p, ";")), this::clause);
                whole |= ends.contains(text.length());
            }
            return whole;
        }
    }

    static boolean isWhole(String text) {
        return new Beginnings(text).isKitchen();
    }

    static boolean begins(String text) {
        Beginnings beginnings = new Beginnings(text);
        return beginnings.isKitchen() || beginnings.ranOut;
    }

    /** -1: there is none. */
    static int fault(String text) {
        if (isWhole(text)) return -1;
        for (int end = 1; end <= text.length(); end++) {
            if (!begins(text.substring(0, end))) return end - 1;
        }
        return text.length();
    }

    /** Cuts a text at a sign, where no bracket is open. */
    static List<String> cutAt(String text, char sign) {
        List<String> parts = new ArrayList<>();
        int open = 0;
        int from = 0;
        for (int i = 0; i < text.length(); i++) {
            char c = text.charAt(i);
            if (c == '(') open++;
            if (c == ')') open--;
            if (c == sign && open == 0) {
                parts.add(text.substring(from, i));
                from = i + 1;
            }
        }
        parts.add(text.substring(from));
        return parts;
    }

    static boolean isSo(String e, Side side, State state) {
        for (String t : cutAt(e, '|')) {
            boolean all = true;
            for (String f : cutAt(t, '&')) all &= isSoPart(f, side, state);
            if (all) return true;
        }
        return false;
    }

    static boolean isSoPart(String f, Side side, State state) {
        if (f.charAt(0) == '!') return !isSoPart(f.substring(1), side, state);
        if (f.charAt(0) == '(') return isSo(f.substring(1, f.length() - 1), side, state);
        int n = Integer.parseInt(f.substring(2));
        int is;
        switch (f.charAt(0)) {
            case 's': is = side.number; break;
            case 'k': is = side.kind(); break;
            case 'v': is = side.v; break;
            case 'l': is = side.length / 10; break;
            case 'n': is = state.snip % 10; break;
            default: is = state.day % 10;
        }
        return f.charAt(1) == '<' ? is < n : f.charAt(1) == '=' ? is == n : is > n;
    }

    // ---- how all is

    static final class State {
        List<Side> sides = new ArrayList<>();
        int snip, day;
        String kitchen = "";
        Integer otherGive, otherLeave;
        Boolean otherHalf;
        List<Integer> seen = new ArrayList<>();
        List<Integer> plan = new ArrayList<>();
        List<int[]> book = new ArrayList<>();
        long cutMore;
        int took;

        State copy() {
            State s = new State();
            for (Side side : sides) s.sides.add(side.copy());
            s.snip = snip;
            s.day = day;
            s.kitchen = kitchen;
            s.seen.addAll(seen);
            s.plan.addAll(plan);
            s.book.addAll(book);
            return s;
        }

        int last(String word, int without) {
            int n = without;
            for (String clause : kitchen.split(";")) {
                if (clause.startsWith(word)) n = Integer.parseInt(clause.substring(word.length()));
            }
            return n;
        }

        int give() { return otherGive != null ? otherGive : last("give ", 1); }
        int leave() { return otherLeave != null ? otherLeave : last("leave ", 2); }

        boolean half() {
            if (otherHalf != null) return otherHalf;
            boolean half = false;
            for (String clause : kitchen.split(";")) {
                if (clause.equals("half")) half = true;
                if (clause.equals("all")) half = false;
            }
            return half;
        }

        int looks(Side side) {
            int looks = side.length;
            for (String clause : kitchen.split(";")) {
                String[] parts = clause.split(" ");
                if (parts.length < 3 || !isSo(parts[2], side, this)) continue;
                looks += (parts[0].equals("over") ? 1 : -1) * Integer.parseInt(parts[1]);
            }
            return looks;
        }

        int taken(Side side, int c) { return Math.min(side.length, side.taken(c, give(), snip)); }

        void cut(Side side, int c) {
            took = taken(side, c);
            side.length -= took;
            side.cut = Math.min(99999, side.cut + took);
            cutMore += took;
            snip++;
        }

        /** The number of the SIDE that was cut, or -5. */
        int goSnip() {
            if (sides.size() < 2) return -5;
            Side longest = sides.get(0);
            Side shortest = sides.get(0);
            for (Side side : sides) {
                if (looks(side) > looks(longest)) longest = side;
                if (looks(side) < looks(shortest)) shortest = side;
            }
            int c = looks(longest) - looks(shortest);
            if (c <= leave()) return -5;
            cut(longest, half() ? c - c / 2 : c);
            return longest.number;
        }

        boolean done() { return copy2().goSnip() == -5; }

        State copy2() {
            State s = copy();
            s.otherGive = otherGive;
            s.otherLeave = otherLeave;
            s.otherHalf = otherHalf;
            return s;
        }

        State snips(int n) {
            State s = copy2();
            for (int i = 0; i < n; i++) s.goSnip();
            return s;
        }

        void goDay() {
            for (Side side : sides) side.length = Math.min(999, side.length + side.grows());
            day++;
        }

        int off() {
            if (sides.isEmpty()) return 0;
            return sides.stream().mapToInt(s -> s.length).max().getAsInt() - least();
        }

        int least() { return sides.stream().mapToInt(s -> s.length).min().orElse(0); }

        int off30() { return snips(30).off(); }
    }

    State all = new State();
    State image = null;
    List<String> kitchens = new ArrayList<>();
    String text = "";
    List<Integer> trace = new ArrayList<>();
    Object[] tapes = new Object[6];

    boolean no(int side) { return side < 0 || side >= all.sides.size(); }
    static boolean in(int n, int a, int b) { return a <= n && n <= b; }

    int side(int kind, int v, int length) {
        if (!in(kind, 0, 6)) return NONE;
        if (!in(v, 0, 9) || !in(length, 0, 999)) return BAD;
        if (all.sides.size() == 6) return FULL;
        Side side = newSide(kind);
        side.number = all.sides.size();
        side.v = v;
        side.length = length;
        all.sides.add(side);
        return side.number;
    }

    int of(int side, int what) {
        if (no(side) || !in(what, 0, 5)) return -10001;
        Side s = all.sides.get(side);
        return new int[] {s.kind(), s.v, s.length, s.cut, all.looks(s), s.grows()}[what];
    }

    int taken(int side, int c) {
        if (no(side)) return NONE;
        return in(c, 0, 999) ? all.taken(all.sides.get(side), c) : BAD;
    }

    int set(int side, int n) {
        if (no(side)) return NONE;
        if (!in(n, 0, 999)) return BAD;
        int was = all.sides.get(side).length;
        all.sides.get(side).length = n;
        return was;
    }

    int row(int side, int part, int n) {
        if (no(side) || !in(part, 0, 3)) return NONE;
        if (!in(n, 0, 9)) return BAD;
        Side s = all.sides.get(side);
        if (!(s instanceof ToldOne)) return STATE;
        int was = s.row[part];
        s.row[part] = n;
        return was;
    }

    int feed(int sign) {
        if (!in(sign, 0, 127)) return BAD;
        if (text.length() == 100) return FULL;
        text += (char) sign;
        return text.length();
    }

    int kitchen() {
        if (kitchens.size() == 6) return FULL;
        String read = text;
        text = "";
        int fault = fault(read);
        if (fault >= 0) return -10 - fault;
        kitchens.add(read);
        all.kitchen = read;
        return kitchens.size() - 1;
    }

    int told(int what) {
        if (!in(what, 0, 6)) return NONE;
        return new int[] {all.snip, all.day, all.give(), all.leave(), all.half() ? 1 : 0, all.off(),
            all.done() ? 1 : 0}[what];
    }

    int snip() {
        if (all.done()) return -5;
        return all.snip == 9999 ? STATE : all.goSnip();
    }

    int pass(int n) {
        if (!in(n, 0, 99)) return BAD;
        if (all.day + n > 9999) return STATE;
        for (int i = 0; i < n; i++) all.goDay();
        return all.day;
    }

    int on(int n, int what) {
        if (!in(what, 0, 1) && (what < 10 || no(what - 10))) return NONE;
        if (!in(n, 0, 60)) return BAD;
        State s = all.snips(n);
        return what == 0 ? s.off() : what == 1 ? (int) s.cutMore : s.sides.get(what - 10).length;
    }

    int ends() {
        for (int n = 0; n <= 60; n++) if (all.snips(n).done()) return n;
        return -5;
    }

    int shortest(int n) { return in(n, 0, 60) ? all.snips(n).least() : BAD; }

    int sides(int n) {
        if (!in(n, 1, 60)) return BAD;
        int bits = 0;
        for (int i = 0; i < n; i++) {
            int cut = all.snips(i).goSnip();
            if (cut >= 0) bits |= 1 << cut;
        }
        return bits;
    }

    int leaves(int what) {
        if (!in(what, 0, 1)) return NONE;
        int best = -1;
        int bestOff = 0;
        for (int leave = 30; leave >= 0; leave--) {
            State s = all.copy();
            s.otherLeave = leave;
            int off = s.off30();
            if (best < 0 || off < bestOff) {
                best = leave;
                bestOff = off;
            }
        }
        return what == 0 ? best : bestOff;
    }

    int halves() {
        State whole = all.copy();
        whole.otherHalf = false;
        State half = all.copy();
        half.otherHalf = true;
        return whole.off30() - half.off30();
    }

    int first(int c) {
        if (!in(c, 1, 99)) return BAD;
        int best = -5;
        int bestOff = 0;
        for (int side = 0; side < all.sides.size(); side++) {
            State s = all.copy();
            s.cut(s.sides.get(side), c);
            int off = s.off30();
            if (best >= 0 && off >= bestOff) continue;
            best = side;
            bestOff = off;
        }
        return best;
    }

    int twice() {
        State s = all.copy();
        s.otherGive = 0;
        return all.off30() - s.off30();
    }

    int pad() {
        int best = -5;
        int bestOff = all.off();
        for (int side = 0; side < all.sides.size(); side++) {
            for (int more = 1; more <= 99; more++) {
                State s = all.copy();
                s.sides.get(side).length += more;
                if (s.off() >= bestOff) continue;
                bestOff = s.off();
                best = 100 * side + more;
            }
        }
        return best;
    }

    int wobbles() {
        if (all.sides.size() < 4) return -5000;
        List<Side> s = all.sides;
        return s.get(0).length + s.get(2).length - (s.get(1).length + s.get(3).length);
    }

    int leg() {
        int w = wobbles();
        if (w == -5000 || w == 0) return -5;
        Side a = all.sides.get(w > 0 ? 0 : 1);
        Side b = all.sides.get(w > 0 ? 2 : 3);
        Side longer = a.length >= b.length ? a : b;
        return longer.length - Math.abs(w) < 0 ? -5 : 1000 * longer.number + Math.abs(w);
    }

    int days(IntPredicate enough) {
        for (int n = 0; n <= 99; n++) if (enough.test(n)) return n;
        return -5;
    }

    State behindDays(int n) {
        State s = all.copy();
        for (int i = 0; i < n; i++) s.goDay();
        return s;
    }

    int grown(int q) { return in(q, 0, 999) ? days(n -> behindDays(n).off() <= q) : BAD; }

    int reaches(int side, int h) {
        if (no(side)) return NONE;
        return in(h, 0, 999) ? days(n -> behindDays(n).sides.get(side).length >= h) : BAD;
    }

    int see(int n) {
        if (n == -1) {
            all.seen.clear();
            return 0;
        }
        if (!in(n, 0, 999)) return BAD;
        if (all.seen.size() == 5) return FULL;
        all.seen.add(n);
        return all.seen.size();
    }

    static boolean isSeen(State state) {
        State s = state.copy();
        for (int seen : s.seen) if (s.goSnip() == -5 || s.took != seen) return false;
        return true;
    }

    int was(int side, int what) {
        if (no(side) || !in(what, 0, 1)) return NONE;
        TreeSet<Integer> lengths = new TreeSet<>();
        for (int length = 0; length <= 99; length++) {
            State s = all.copy();
            s.sides.get(side).length = length;
            if (isSeen(s)) lengths.add(length);
        }
        return what == 0 ? lengths.size() : lengths.isEmpty() ? -5 : lengths.first();
    }

    int now() { return isSeen(all) ? 1 : 0; }

    static long part(int above, int below, int part) {
        BigInteger common = BigInteger.valueOf(above).gcd(BigInteger.valueOf(below));
        return (part == 0 ? above : below) / common.longValue();
    }

    long odds(int q, int part) {
        if (!in(q, 0, 999) || !in(part, 0, 1) || all.sides.isEmpty()) return NO;
        int good = 0;
        for (int side = 0; side < all.sides.size(); side++) {
            State s = all.copy();
            s.sides.get(side).length += 5;
            if (s.off30() <= q) good++;
        }
        return part(good, all.sides.size(), part);
    }

    long mean(int n, int part) {
        if (!in(n, 0, 60) || !in(part, 0, 1) || all.sides.isEmpty()) return NO;
        return part(all.snips(n).sides.stream().mapToInt(s -> s.length).sum(), all.sides.size(), part);
    }

    int plan(int what) {
        if (what == -1) {
            all.plan.clear();
            return 0;
        }
        if (!in(what, 0, 1)) return NONE;
        if (all.plan.size() == 10) return FULL;
        all.plan.add(what);
        return all.plan.size();
    }

    int planned(int what) {
        if (!in(what, 0, 1)) return NONE;
        State s = all.copy();
        for (int step : s.plan) {
            if (step == 0) s.goSnip();
            else s.goDay();
        }
        return what == 0 ? s.off() : (int) s.cutMore;
    }

    int book(int side, int length) {
        if (side == -1) {
            all.book.clear();
            return 0;
        }
        if (no(side)) return NONE;
        if (!in(length, 0, 999)) return BAD;
        if (all.book.size() == 8) return FULL;
        all.book.add(new int[] {side, length});
        return all.book.size();
    }

    int looked() {
        for (int[] row : all.book) if (all.sides.get(row[0]).length != row[1]) return all.book.indexOf(row);
        return -5;
    }

    int judge(int tape, int i) {
        if (!in(tape, 0, 5)) return NONE;
        int looked = 0;
        try {
            short[] row = (short[]) tapes[tape];
            for (Side side : all.sides) {
                if (row[i + looked] != side.length) return looked;
                looked++;
            }
            return -5;
        } catch (ClassCastException e) {
            return -12;
        } catch (ArrayIndexOutOfBoundsException | NullPointerException e) {
            return 100 + looked;
        }
    }

    int image() {
        image = all.copy();
        return all.sides.size();
    }

    int undo() {
        if (image == null) return STATE;
        all = image.copy();
        return all.sides.size();
    }

    int act(int side, int act, int x) {
        trace = new ArrayList<>();
        if (no(side) || !in(act, 0, 2)) return 0;
        Side s = all.sides.get(side);
        s.trace = trace;
        return act == 0 ? s.hangs(x) : act == 1 ? s.falls(x) : s.tells(x);
    }

    int trace(int i) { return in(i, 0, Math.min(20, trace.size()) - 1) ? trace.get(i) : NONE; }

    int cast(int side, int k) {
        if (!in(k, 0, 6)) return BAD;
        if (no(side)) return -11;
        try {
            CLASSES.get(k).cast(all.sides.get(side));
            return all.sides.get(side).kind();
        } catch (ClassCastException e) {
            return -12;
        }
    }

    int count(int what) {
        if (!in(what, 0, 6)) return BAD;
        return new int[] {all.sides.size(), kitchens.size(), all.seen.size(), all.plan.size(), all.book.size(),
            text.length(), trace.size()}[what];
    }

    int tape(int tape, int sort, int n) {
        if (!in(tape, 0, 5)) return NONE;
        if (!in(sort, -1, 4)) return BAD;
        if (sort == -1) {
            tapes[tape] = null;
            return 1;
        }
        if (n > 60) return BAD;
        try {
            tapes[tape] = sort == 0 ? new byte[n] : sort == 1 ? new short[n] : sort == 2 ? new int[n]
                    : sort == 3 ? new long[n] : new boolean[n];
            return 1;
        } catch (NegativeArraySizeException e) {
            return -14;
        }
    }

    int item(int tape, int i, long v) {
        if (!in(tape, 0, 5)) return NONE;
        Object row = tapes[tape];
        if (row == null) return -11;
        try {
            if (row instanceof byte[]) ((byte[]) row)[i] = (byte) v;
            else if (row instanceof short[]) ((short[]) row)[i] = (short) v;
            else if (row instanceof int[]) ((int[]) row)[i] = (int) v;
            else if (row instanceof long[]) ((long[]) row)[i] = v;
            else ((boolean[]) row)[i] = v != 0;
            return 1;
        } catch (ArrayIndexOutOfBoundsException e) {
            return -13;
        }
    }

    long read(int tape, int i) {
        try {
            Object row = tapes[tape];
            if (row instanceof boolean[]) return ((boolean[]) row)[i] ? 1 : 0;
            return java.lang.reflect.Array.getLong(row, i);
        } catch (ArrayIndexOutOfBoundsException | NullPointerException e) {
            return NO;
        }
    }

    @SuppressWarnings("SuspiciousSystemArraycopy")
    int shift(int tape, int i, int other, int j, int n) {
        if (!in(tape, 0, 5) || !in(other, 0, 5)) return NONE;
        try {
            System.arraycopy(tapes[tape], i, tapes[other], j, n);
            return n;
        } catch (NullPointerException e) {
            return -11;
        } catch (ArrayStoreException e) {
            return -12;
        } catch (ArrayIndexOutOfBoundsException e) {
            return -13;
        }
    }
}
