/** Promises 9 to 15: guesses. */
public final class GuessTest {
    private static final Due DUE = new Due("GuessTest");

    public static void main(String[] args) {
        guess();
        was();
        node();
        guessers();
        halving();
        weightsAtTheirEnds();
        cost();
        costBy();
        best();
        follows();
        DUE.end();
    }

    private static void guess() {
        TreeOdds x = new TreeOdds();
        DUE.is("none", x.guess(), 32768);
        x.sign(1);
        // LEVEL 0 has seen the 1: (49152 and 32768) by 2; the CHILD of past 1 has seen nothing.
        DUE.is("behind 1", x.guess(), 40960);
        x.sign(0);
        DUE.is("behind 10", x.guess(), 38229);
        DUE.is("again", x.guess(), 38229);
        DUE.is("nothing counts", x.count(7), 2);
        x = new TreeOdds();
        x.sets(0, 0);
        x.sign(1);
        DUE.is("DEPTH 0 is OWN alone", x.guess(), 49152);
        x = Due.of("0x99");
        x.sets(0, 6);
        DUE.is("behind many 0s", x.guess() < 2000 ? 1 : 0, 1);
    }

    private static void was() {
        TreeOdds x = Due.of("1011");
        int[] guesses = {32768, 40960, 38229, 26331}, costs = {16, 24, 14, 23};
        for (int k = 0; k < 4; k++) {
            DUE.is("was(" + k + ", 0)", x.was(k, 0), guesses[k]);
            DUE.is("was(" + k + ", 1)", x.was(k, 1), costs[k]);
        }
        DUE.is("was(4, 0)", x.was(4, 0), TreeOdds.BAD);
        DUE.is("was(-1, 0)", x.was(-1, 0), TreeOdds.BAD);
        DUE.is("was(0, 2)", x.was(0, 2), TreeOdds.BAD);
        DUE.is("was(0, -1)", x.was(0, -1), TreeOdds.BAD);
        DUE.is("times BAD", x.count(0), 4);
        x.sets(0, 0);
        DUE.is("by the DEPTH there is", x.was(1, 0), 49152);
        DUE.is("cost by the DEPTH there is", x.was(1, 1), 32);
    }

    private static void node() {
        TreeOdds x = Due.of("1011");
        // Pasts, the nearest first: 000 1, 100 0, 010 1, 101 1.
        int[][] counts = {
            {0, 0, 1, 3}, {1, 0, 0, 2}, {1, 1, 1, 1}, {2, 0, 0, 1}, {2, 1, 1, 1}, {2, 2, 0, 1}, {2, 3, 0, 0},
            {3, 0, 0, 1}, {3, 1, 1, 0}, {3, 2, 0, 1}, {3, 3, 0, 0}, {3, 4, 0, 0}, {3, 5, 0, 1}, {3, 6, 0, 0}, {3, 7, 0, 0}};
        for (int[] c : counts) {
            String node = "node(" + c[0] + ", " + c[1];
            DUE.is(node + ", 0)", x.node(c[0], c[1], 0), c[2]);
            DUE.is(node + ", 1)", x.node(c[0], c[1], 1), c[3]);
            int own = 65536 * (2 * c[3] + 1) / (2 * c[2] + 2 * c[3] + 2);
            DUE.is(node + ", 2)", x.node(c[0], c[1], 2), own);
        }
        x = Due.of("11");
        // Behind 1 the second 1 came: o is 49152, c 32768 at LEVEL 0.
        DUE.is("WEIGHT of LEVEL 0", x.node(0, 0, 3), 65536L * 49152 / (49152 + 32768));
        DUE.is("WEIGHT of LEVEL 1", x.node(1, 1, 3), 32768);
        DUE.is("WEIGHT of LEVEL D", x.node(3, 1, 3), 65536);
        x = Due.of("10");
        DUE.is("WEIGHT by a 0", x.node(0, 0, 3), 65536L * 16384 / (16384 + 32768));
        int[][] wrong = {{-1, 0, 0}, {4, 0, 0}, {0, 1, 0}, {0, -1, 0}, {3, 8, 0}, {2, 4, 0}, {3, 0, 4}, {3, 0, -1}, {40, 0, 0}};
        for (int[] w : wrong) DUE.is("node, wrong", x.node(w[0], w[1], w[2]), TreeOdds.BAD);
        DUE.is("times BAD", x.count(0), wrong.length);
        x.sets(0, 6);
        DUE.is("LEVEL 6", x.node(6, 63, 3), 65536);
        DUE.is("LEVEL 6, past 1", x.node(6, 1, 0), 1);
        DUE.is("LEVEL 3 of 6", x.node(3, 0, 3), 32768);
        x.sets(0, 0);
        DUE.is("LEVEL 0 of 0", x.node(0, 0, 3), 65536);
        DUE.is("LEVEL 1 of 0", x.node(1, 0, 0), TreeOdds.BAD);
    }

    private static void guessers() {
        TreeOdds x = Due.of("0x5 1x3");
        x.sets(0, 0);
        long[] own = {65536L * 7 / 18, 65536L * 4 / 10, 65536L * 13 / 34, 65536L * 3 / 8};
        for (int g = 0; g < 4; g++) {
            x.sets(1, g);
            DUE.is("OWN by GUESSER " + g, x.node(0, 0, 2), own[g]);
            DUE.is("guess by GUESSER " + g, x.guess(), own[g]);
        }
    }

    private static void halving() {
        TreeOdds x = Due.of("1 0x60");
        DUE.is("60 0s", x.node(0, 0, 0), 60);
        DUE.is("1 1", x.node(0, 0, 1), 1);
        x.sign(0);
        DUE.is("61 by 2", x.node(0, 0, 0), 30);
        DUE.is("1 by 2", x.node(0, 0, 1), 0);
        DUE.is("each NODE by its own", x.node(3, 0, 0), 58);
        x = Due.of("0x5 1x60");
        x.sign(1);
        DUE.is("61 1s by 2", x.node(0, 0, 1), 30);
        DUE.is("5 by 2", x.node(0, 0, 0), 2);
    }

    private static void weightsAtTheirEnds() {
        DUE.is("WEIGHT at least", Due.of("(01)x50").node(0, 0, 3), 64);
        TreeOdds x = Due.of("0x29 1 0x15 1 0x7 1010x9 110101011011010110101(101)x4 1");
        x.sets(0, 1);
        DUE.is("SIGNS", x.count(4), 99);
        DUE.is("WEIGHT at most", x.node(0, 0, 3), 65472);
    }

    private static void cost() {
        TreeOdds x = new TreeOdds();
        DUE.is("none", x.cost(), 0);
        int[] paid = {16, 40, 54, 77};
        int[] signs = {1, 0, 1, 1};
        for (int i = 0; i < 4; i++) {
            x.sign(signs[i]);
            DUE.is("cost", x.cost(), paid[i]);
        }
        x = Due.of("1x99");
        x.sets(0, 6);
        DUE.is("1x99", x.cost(), 156);
        DUE.is("a 0 behind them", x.sign(0), 101);
        DUE.is("together", x.cost(), 257);
        x.sets(1, 2);
        int all = 0;
        for (int k = 0; k < 100; k++) all += x.was(k, 1);
        DUE.is("all of was", x.cost(), all);
    }

    private static void costBy() {
        TreeOdds x = Due.of("(0110 1)x13");
        x.sets(0, 2);
        x.sets(1, 1);
        for (int d = 0; d <= 6; d++) {
            for (int g = 0; g <= 3; g++) {
                TreeOdds y = new TreeOdds();
                y.sets(0, d);
                y.sets(1, g);
                Due.type(y, "(0110 1)x13");
                y.told();
                long before = x.digest();
                DUE.is("costBy(" + d + ", " + g + ")", x.costBy(d, g), y.cost());
                DUE.is("all stays", x.digest() == before ? 1 : 0, 1);
            }
        }
        int[][] wrong = {{-1, 0}, {7, 0}, {0, -1}, {0, 4}};
        for (int[] w : wrong) DUE.is("costBy, wrong", x.costBy(w[0], w[1]), TreeOdds.BAD);
        DUE.is("times BAD", x.count(0), 4);
    }

    private static void best() {
        TreeOdds x = new TreeOdds();
        for (int what = 0; what < 3; what++) DUE.is("none: best(" + what + ")", x.best(what), 0);
        x.sign(1);
        DUE.is("all alike: DEPTH", x.best(0), 0);
        DUE.is("all alike: GUESSER", x.best(1), 0);
        DUE.is("all alike: COST", x.best(2), 16);
        String[] texts = {"1011(01)x20", "1x99", "0x62 1x10", "(100)x26", "(0110)x20", "(0011010)x12", "(00000 1)x15"};
        for (String text : texts) {
            x = Due.of(text);
            long before = x.digest();
            int[] least = {0, 0, x.costBy(0, 0)};
            for (int d = 6; d >= 0; d--) {
                for (int g = 3; g >= 0; g--) {
                    if (x.costBy(d, g) <= least[2]) least = new int[] {d, g, x.costBy(d, g)};
                }
            }
            for (int what = 0; what < 3; what++) DUE.is(text + ": best(" + what + ")", x.best(what), least[what]);
            DUE.is(text + ": all stays", x.digest() == before ? 1 : 0, 1);
        }
        x = Due.of("1011(01)x20");
        DUE.is("DEPTH", x.best(0), 1);
        DUE.is("GUESSER", x.best(1), 2);
        DUE.is("COST", x.best(2), 234);
        x = Due.of("1011");
        DUE.is("1011: DEPTH", x.best(0), 0);
        DUE.is("1011: GUESSER", x.best(1), 3);
        DUE.is("1011: COST", x.best(2), 56);
        // Rows of one length that differ in one SIGN alone or in all.
        for (String row : new String[] {"0x11", "10x10", "0x10 1", "1x11", "01x10", "(01)x5 0", "(10)x5 1"}) {
            x.empties();
            Due.type(x, row);
            x.told();
            int least = Integer.MAX_VALUE;
            for (int i = 0; i < 28; i++) least = Math.min(least, x.costBy(i / 4, i % 4));
            DUE.is(row + " anew: COST", x.best(2), least);
        }
        x.empties();
        DUE.is("no row again", x.best(2), 0);
        DUE.is("best(3)", x.best(3), TreeOdds.BAD);
        DUE.is("best(-1)", x.best(-1), TreeOdds.BAD);
        DUE.is("times BAD", x.count(0), 2);
    }

    private static void follows() {
        TreeOdds x = new TreeOdds();
        DUE.is("32768 is 1", x.follows(1), 1);
        DUE.is("16 of them", x.follows(16), 65535);
        x = Due.of("(100)x20");
        DUE.is("the first the lowest", x.follows(6), 0b001001);
        x.sign(1);
        DUE.is("one further", x.follows(5), 0b00100 | 0);
        x = Due.of("(01)x50");
        long before = x.digest();
        DUE.is("beyond 100", x.follows(16), 0b1010101010101010);
        DUE.is("all stays", x.digest() == before ? 1 : 0, 1);
        DUE.is("follows(0)", x.follows(0), TreeOdds.BAD);
        DUE.is("follows(17)", x.follows(17), TreeOdds.BAD);
        DUE.is("times BAD", x.count(0), 2);
        x = Due.of("1101 0x3");
        int bits = x.follows(16);
        for (int i = 0; i < 16; i++) {
            int likelier = x.guess() >= 32768 ? 1 : 0;
            DUE.is("as if they came: " + i, (bits >> i) & 1, likelier);
            x.sign(likelier);
        }
    }
}
