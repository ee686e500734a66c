/** Promises 16 and 17: the best tree. */
public final class BestTreeTest {
    private static final Due DUE = new Due("BestTreeTest");

    public static void main(String[] args) {
        small();
        parted();
        alike();
        againstAllTrees();
        wrong();
        DUE.end();
    }

    private static void small() {
        TreeOdds x = new TreeOdds();
        DUE.is("none: COST", x.tree(0), 8);
        DUE.is("none: leaves", x.tree(1), 1);
        DUE.is("none: LEVEL", x.tree(2), 0);
        DUE.is("none: leaf(0, 0)", x.leaf(0, 0), 1);
        DUE.is("none: leaf(1, 0)", x.leaf(1, 0), 0);
        x.sign(1);
        DUE.is("1: COST", x.tree(0), 24);
        x.sets(0, 0);
        DUE.is("no 8 at LEVEL D", x.tree(0), 16);
        DUE.is("DEPTH 0: leaf", x.leaf(0, 0), 1);
    }

    private static void parted() {
        TreeOdds x = Due.of("(10)x30");
        // Behind 0 always 1, behind 1 always 0: two leaves are enough.
        DUE.is("leaves", x.tree(1), 2);
        DUE.is("LEVEL", x.tree(2), 1);
        DUE.is("leaf(0, 0)", x.leaf(0, 0), 2);
        DUE.is("leaf(1, 0)", x.leaf(1, 0), 1);
        DUE.is("leaf(1, 1)", x.leaf(1, 1), 1);
        DUE.is("leaf(2, 1)", x.leaf(2, 1), 0);
        DUE.is("leaf(3, 5)", x.leaf(3, 5), 0);
        x = Due.of("(100)x30");
        // Behind 1 and behind 01 a 0, behind 00 a 1: only past 0 is parted.
        DUE.is("leaves", x.tree(1), 3);
        DUE.is("LEVEL", x.tree(2), 2);
        DUE.is("leaf(0, 0)", x.leaf(0, 0), 2);
        DUE.is("leaf(1, 0)", x.leaf(1, 0), 2);
        DUE.is("leaf(1, 1)", x.leaf(1, 1), 1);
        DUE.is("leaf(2, 0)", x.leaf(2, 0), 1);
        DUE.is("leaf(2, 2)", x.leaf(2, 2), 1);
        DUE.is("leaf(2, 1)", x.leaf(2, 1), 0);
        DUE.is("leaf(2, 3)", x.leaf(2, 3), 0);
        x = Due.of("(110)x30");
        DUE.is("past 1 is parted", x.leaf(1, 1), 2);
        DUE.is("past 0 is not", x.leaf(1, 0), 1);
        DUE.is("leaf(2, 1)", x.leaf(2, 1), 1);
        DUE.is("leaf(2, 3)", x.leaf(2, 3), 1);
    }

    /** At DEPTH 1 parting the first NODE costs no 8 more, so that a row whose sums are alike can be found. */
    private static void alike() {
        int found = 0;
        for (int n = 1; n <= 10; n++) {
            for (int bits = 0; bits < 1 << n; bits++) {
                TreeOdds x = new TreeOdds();
                x.sets(0, 1);
                x.signs(bits, n);
                int[] alone = new int[3];
                aloneAtDepthOne(x, alone);
                boolean parted = alone[1] + alone[2] < alone[0];
                if (alone[1] + alone[2] == alone[0]) found++;
                DUE.is(bits + " of " + n + ": leaf(0, 0)", x.leaf(0, 0), parted ? 2 : 1);
                DUE.is(bits + " of " + n + ": leaf(1, 1)", x.leaf(1, 1), parted ? 1 : 0);
                DUE.is(bits + " of " + n + ": tree(0)", x.tree(0), 8 + Math.min(alone[0], alone[1] + alone[2]));
                DUE.is(bits + " of " + n + ": tree(1)", x.tree(1), parted ? 2 : 1);
            }
        }
        DUE.is("rows with like sums were among them", found > 0 ? 1 : 0, 1);
    }

    private static void aloneAtDepthOne(TreeOdds x, int[] alone) {
        int[][] counts = new int[3][2];
        int nearest = 0;
        for (int k = 0; k < x.count(4); k++) {
            int s = x.at(k);
            for (int node : new int[] {0, 1 + nearest}) {
                int p = 65536 * (2 * counts[node][1] + 1) / (2 * counts[node][0] + 2 * counts[node][1] + 2);
                alone[node] += Plain.bits(s == 1 ? p : 65536 - p);
                counts[node][s]++;
            }
            nearest = s;
        }
    }

    /** All 677 full trees of DEPTH 4, each with its own COST, for some rows. */
    private static void againstAllTrees() {
        String[] texts = {"(0110)x20", "(0011010)x12", "(00000 1)x15", "1x50 0x50", "(0 1)x20 (001)x20", "110100101011"};
        for (String text : texts) {
            for (int g = 0; g <= 3; g++) {
                TreeOdds x = Due.of(text);
                x.sets(0, 4);
                x.sets(1, g);
                Plain y = new Plain();
                int least = Integer.MAX_VALUE;
                for (int cost : costs(y.world(Due.row(x), 4, g), "")) least = Math.min(least, cost);
                DUE.is(text + ": COST", x.tree(0), least);
                int leaves = 0, nodes = 0, deepest = 0;
                for (int l = 0; l <= 4; l++) {
                    for (int p = 0; p < 1 << l; p++) {
                        int kind = x.leaf(l, p);
                        if (kind == 1) leaves++;
                        if (kind == 1) deepest = l;
                        if (kind == 2) nodes++;
                        int parent = l == 0 ? 2 : x.leaf(l - 1, p & ((1 << (l - 1)) - 1));
                        DUE.is(text + ": in the tree below a parted one alone", kind != 0 ? 1 : 0, parent == 2 ? 1 : 0);
                    }
                }
                DUE.is(text + ": leaves", x.tree(1), leaves);
                DUE.is(text + ": LEVEL", x.tree(2), deepest);
                DUE.is(text + ": a full tree", leaves, nodes + 1);
            }
        }
    }

    private static int[] costs(Plain.World w, String past) {
        int alone = w.node(past).alone;
        if (past.length() == w.depth) return new int[] {alone};
        int[] zero = costs(w, past + "0"), one = costs(w, past + "1");
        int[] all = new int[1 + zero.length * one.length];
        int n = 0;
        all[n++] = alone + 8;
        for (int a : zero) for (int b : one) all[n++] = a + b + 8;
        return all;
    }

    private static void wrong() {
        TreeOdds x = Due.of("0110");
        DUE.is("tree(3)", x.tree(3), TreeOdds.BAD);
        DUE.is("tree(-1)", x.tree(-1), TreeOdds.BAD);
        int[][] wrong = {{-1, 0}, {4, 0}, {0, 1}, {0, -1}, {3, 8}, {1, 2}, {33, 0}};
        for (int[] w : wrong) DUE.is("leaf, wrong", x.leaf(w[0], w[1]), TreeOdds.BAD);
        DUE.is("times BAD", x.count(0), 2 + wrong.length);
        long before = x.digest();
        x.tree(0);
        x.leaf(3, 7);
        DUE.is("all stays", x.digest() == before ? 1 : 0, 1);
        x.sets(0, 6);
        DUE.is("leaf(6, 63)", x.leaf(6, 63), 0);
        DUE.is("leaf(6, 64)", x.leaf(6, 64), TreeOdds.BAD);
    }
}
