/** Counts the calls whose answers are not the ones that are due, and prints them. */
final class Due {
    private int looked = 0;
    private int wrong = 0;

    void is(String call, long got, long want) {
        looked++;
        if (got == want) return;
        wrong++;
        if (wrong <= 50) System.out.println(call + " answered " + got + ", due is " + want);
    }

    /** Feeds a text and reads it as a KITCHEN. */
    static int read(BitOff x, String text) {
        for (int i = 0; i < text.length(); i++) x.feed(text.charAt(i));
        return x.kitchen();
    }

    /** A new object with SIDES told as kind, v, length, kind, v, length ... */
    static BitOff with(int... sides) {
        BitOff x = new BitOff();
        for (int i = 0; i + 2 < sides.length; i += 3) x.side(sides[i], sides[i + 1], sides[i + 2]);
        return x;
    }

    static BitOff with(String text, int... sides) {
        BitOff x = with(sides);
        int kitchen = read(x, text);
        if (kitchen < 0) throw new IllegalStateException("no kitchen: " + text + " answered " + kitchen);
        return x;
    }

    void end() {
        System.out.println(looked + " answers looked at, " + wrong + " not as due");
        if (wrong != 0 || looked == 0) System.exit(1);
    }
}
