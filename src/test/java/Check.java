/** Counts answers and tells those that are not due. */
final class Check {
    private int wrong = 0;
    private int all = 0;

    void due(String what, long want, long got) {
        all++;
        if (got == want) return;
        wrong++;
        System.out.println(what + " answered " + got + ", due is " + want);
    }

    void end(String name) {
        System.out.println(name + ": " + all + " answers, " + wrong + " wrong");
        if (wrong != 0 || all == 0) System.exit(1);
    }

    /** Writes a text, eight bytes at a call. */
    static int write(HangingCards x, String text) {
        int length = x.count(2);
        for (int at = 0; at < text.length(); at += 8) {
            int n = Math.min(8, text.length() - at);
            long v = 0;
            for (int i = 0; i < n; i++) v = v << 8 | text.charAt(at + i) & 255;
            length = x.write(n, v);
        }
        return length;
    }

    /** Puts a text in force, whatever stood there. */
    static int force(HangingCards x, String text) {
        x.wipe();
        write(x, text);
        return x.force();
    }

    static long name(String letters) {
        long v = 0;
        for (int i = 0; i < 8; i++) v = v << 8 | (i < letters.length() ? letters.charAt(i) & 255 : 0);
        return v;
    }

    /** A card's holes from 12 figures to the base 6. */
    static long holes(String figures) {
        return Long.parseLong(figures.replace(" ", ""), 6);
    }
}
