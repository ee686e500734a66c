import java.util.function.IntSupplier;

/** Counts and prints the answers that are not the due ones. */
final class Due {
    private final String test;
    private int wrong = 0;
    private int asked = 0;

    Due(String test) {
        this.test = test;
    }

    void is(String call, long got, long want) {
        asked++;
        if (got == want) return;
        wrong++;
        System.out.println(test + ": " + call + " answered " + got + ", due is " + want);
    }

    void yes(String what, boolean got) {
        is(what, got ? 1 : 0, 1);
    }

    /** The call answers so, and all that the digest tells is as it was. */
    void stays(String call, TreeOdds x, IntSupplier ask, int want) {
        long before = x.digest();
        is(call, ask.getAsInt(), want);
        is(call + ": the digest behind it", x.digest(), before);
    }

    /** The call is refused: nothing changes but how often. */
    void refused(String call, TreeOdds x, IntSupplier ask, int why) {
        refused(call, x, ask, why, why);
    }

    void refused(String call, TreeOdds x, IntSupplier ask, int why, int answer) {
        long before = x.digest();
        int what = TreeOdds.BAD - why;
        int times = x.count(what);
        is(call, ask.getAsInt(), answer);
        is(call + ": how often", x.count(what), times + 1);
        is(call + ": the digest behind it", x.digest(), before + shareInDigest(x, what));
    }

    /** By how much the digest is more, if count(what) is 1 more: 31 as often as a number comes behind it. */
    private static long shareInDigest(TreeOdds x, int what) {
        int behind = 7 - what + x.count(4) + 3 + x.written(TreeOdds.NONE);
        long share = 1;
        for (int i = 0; i < behind; i++) share *= 31;
        return share;
    }

    /** The text is typed in place of the one there was. */
    static void type(TreeOdds x, String text) {
        x.clear();
        for (int i = 0; i < text.length(); i++) x.type(text.charAt(i));
    }

    /** An object whose row is this text's. */
    static TreeOdds of(String text) {
        TreeOdds x = new TreeOdds();
        type(x, text);
        x.told();
        x.clear();
        return x;
    }

    /** An object with this row of noughts and ones, by this DEPTH and GUESSER. */
    static TreeOdds of(int depth, int guesser, String row) {
        TreeOdds x = new TreeOdds();
        x.sets(0, depth);
        x.sets(1, guesser);
        put(x, row);
        return x;
    }

    static void put(TreeOdds x, String row) {
        for (int i = 0; i < row.length(); i++) x.sign(row.charAt(i) - '0');
    }

    static String row(TreeOdds x) {
        StringBuilder s = new StringBuilder();
        int signs = x.count(4);
        for (int k = 0; k < signs; k++) s.append(x.at(k));
        return s.toString();
    }

    void row(String where, TreeOdds x, String want) {
        asked++;
        String got = row(x);
        if (got.equals(want)) return;
        wrong++;
        System.out.println(test + ": " + where + ": the row is " + got + ", due is " + want);
    }

    void end() {
        System.out.println(test + ": " + asked + " asked, " + wrong + " wrong");
        if (wrong != 0) System.exit(1);
    }
}
