/** Counts and prints the answers that are not the due ones. */
final class Due {
    private final String test;
    private int wrong = 0;
    private int asked = 0;

    Due(String test) {
        this.test = test;
    }

    void is(String call, long got, long want) {
        asked++;
        if (got == want) return;
        wrong++;
        System.out.println(test + ": " + call + " answered " + got + ", due is " + want);
    }

    /** The text is typed in place of the one there was. */
    static void type(TreeOdds x, String text) {
        x.clear();
        for (int i = 0; i < text.length(); i++) x.type(text.charAt(i));
    }

    /** An object whose row is this text's. */
    static TreeOdds of(String text) {
        TreeOdds x = new TreeOdds();
        type(x, text);
        x.told();
        x.clear();
        return x;
    }

    static String row(TreeOdds x) {
        StringBuilder s = new StringBuilder();
        int signs = x.count(4);
        for (int k = 0; k < signs; k++) s.append(x.at(k));
        return s.toString();
    }

    void row(String where, TreeOdds x, String want) {
        asked++;
        String got = row(x);
        if (got.equals(want)) return;
        wrong++;
        System.out.println(test + ": " + where + ": the row is " + got + ", due is " + want);
    }

    void end() {
        System.out.println(test + ": " + asked + " asked, " + wrong + " wrong");
        if (wrong != 0) System.exit(1);
    }
}
