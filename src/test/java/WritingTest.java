/** Promises 18 and 19: writing and reading. */
public final class WritingTest {
    private static final Due DUE = new Due("WritingTest");

    public static void main(String[] args) {
        written();
        carries();
        readAgain();
        rangeJustEnough();
        spoilt();
        spoiltAnywhere();
        wrong();
        DUE.end();
    }

    private static void bytes(String text, int depth, int... want) {
        TreeOdds x = Due.of(text);
        x.sets(0, depth);
        DUE.is(text + ": bytes", x.written(TreeOdds.NONE), want.length);
        for (int k = 0; k < want.length; k++) DUE.is(text + ": byte " + k, x.written(k), want[k]);
        DUE.is(text + ": behind the end", x.written(want.length), -5);
        DUE.is(text + ": far behind the end", x.written(Integer.MAX_VALUE), -5);
        DUE.is(text + ": that is no refusal", x.count(0), 0);
    }

    private static void written() {
        bytes("", 3, 0, 0, 0, 0);
        // A first 0 makes LOW half of RANGE.
        bytes("0", 3, 128, 0, 0, 0);
        bytes("1", 3, 0, 0, 0, 0);
        bytes("1011", 3, 80, 0, 0, 0);
        bytes("1x99 0", 6, 7, 153, 194, 224, 0);
        TreeOdds x = new TreeOdds();
        x.draw(7, 100, 50);
        int[] want = {152, 151, 133, 96, 153};
        for (int k = 0; k < 5; k++) DUE.is("drawn: byte " + k, x.written(k), want[k]);
        DUE.is("drawn: bytes", x.written(-1), 17);
    }

    /** Many rows, each beside the same number reckoned without carries. */
    private static void carries() {
        for (int seed = 0; seed < 300; seed++) {
            TreeOdds x = new TreeOdds();
            Plain y = new Plain();
            x.sets(0, seed % 7);
            x.sets(1, seed % 4);
            x.draw(seed * 31, 100, 1 + seed % 99);
            y.row = Due.row(x);
            y.depth = seed % 7;
            y.guesser = seed % 4;
            int[] want = y.bytes();
            DUE.is("drawn by " + seed + ": bytes", x.written(TreeOdds.NONE), want.length);
            for (int k = 0; k < want.length; k++) DUE.is("drawn by " + seed + ": byte " + k, x.written(k), want[k]);
        }
    }

    private static void readAgain() {
        for (int seed = 0; seed < 60; seed++) {
            TreeOdds x = new TreeOdds();
            x.sets(0, seed % 7);
            x.sets(1, seed % 4);
            x.draw(seed * 977, 1 + seed % 100, 5 + seed);
            long before = x.digest();
            DUE.is("all SIGNS again, by " + seed, x.reads(TreeOdds.NONE, 1), x.count(4));
            DUE.is("x counts not, by " + seed, x.reads(TreeOdds.NONE, -7), x.count(4));
            DUE.is("x counts not, by " + seed, x.reads(TreeOdds.NONE, 256), x.count(4));
            DUE.is("all stays, by " + seed, x.digest() == before ? 1 : 0, 1);
        }
    }

    private static void spoilt() {
        TreeOdds x = new TreeOdds();
        x.draw(7, 100, 50);
        long before = x.digest();
        DUE.is("reads(0, 1)", x.reads(0, 1), 51);
        DUE.is("reads(1, 128)", x.reads(1, 128), 53);
        DUE.is("reads(3, 255)", x.reads(3, 255), 53);
        DUE.is("all stays", x.digest() == before ? 1 : 0, 1);
        // Only the last SIGNS are told by the last bytes.
        DUE.is("reads(16, 255)", x.reads(16, 255), 100);
        x = Due.of("0");
        DUE.is("0 becomes 1", x.reads(0, 128), 0);
        DUE.is("0 stays 0", x.reads(0, 127), 1);
        x = Due.of("1");
        DUE.is("1 stays 1", x.reads(0, 127), 1);
        DUE.is("1 becomes 0", x.reads(0, 128), 0);
        x = new TreeOdds();
        DUE.is("no SIGNS", x.reads(3, 255), 0);
    }

    /** By LAST at DEPTH 0 these SIGNS halve RANGE, the fourth makes it a quarter: 2 to the 24 is not below itself. */
    private static void rangeJustEnough() {
        TreeOdds x = new TreeOdds();
        x.sets(0, 0);
        x.sets(1, 3);
        Due.type(x, "0101010");
        x.told();
        DUE.is("RANGE 2 to the 24: bytes", x.written(TreeOdds.NONE), 4);
        DUE.is("RANGE 2 to the 24: read again", x.reads(TreeOdds.NONE, 0), 7);
        x.sign(1);
        DUE.is("RANGE below it: bytes", x.written(TreeOdds.NONE), 5);
        DUE.is("RANGE below it: read again", x.reads(TreeOdds.NONE, 0), 8);
    }

    /** Each byte of some rows changed, the last ones too, so that reading goes beyond the end here and there. */
    private static void spoiltAnywhere() {
        for (int seed = 0; seed < 40; seed++) {
            TreeOdds x = new TreeOdds();
            Plain y = new Plain();
            x.sets(0, seed % 7);
            x.sets(1, seed % 4);
            x.draw(seed * 53, 40 + seed, 10 + seed * 2);
            y.row = Due.row(x);
            y.depth = seed % 7;
            y.guesser = seed % 4;
            for (int k = 0; k < x.written(TreeOdds.NONE); k++) {
                for (int by : new int[] {1, 16, 128, 255}) {
                    DUE.is("drawn by " + seed + ": reads(" + k + ", " + by + ")", x.reads(k, by), y.reads(k, by));
                }
            }
        }
    }

    private static void wrong() {
        TreeOdds x = Due.of("1011");
        DUE.is("written(-2)", x.written(-2), -10);
        DUE.is("written(least)", x.written(Integer.MIN_VALUE), -10);
        DUE.is("times BAD", x.count(0), 2);
        int[][] wrong = {{-2, 1}, {4, 1}, {0, 0}, {0, 256}, {3, -1}, {Integer.MAX_VALUE, 1}, {Integer.MIN_VALUE, 1}};
        for (int[] w : wrong) DUE.is("reads, wrong", x.reads(w[0], w[1]), TreeOdds.BAD);
        DUE.is("times BAD", x.count(0), 2 + wrong.length);
        DUE.is("the last byte", x.reads(3, 255), 4);
    }
}
