/** The edges that the document names for the best tree: BEST TREE and promises 16 and 17, a sentence each. */
public final class TreeEdgesTest {
    private static final Due DUE = new Due("TreeEdgesTest");
    private static final int BAD = TreeOdds.BAD;
    private static final int LEAST = Integer.MIN_VALUE, MOST = Integer.MAX_VALUE;

    public static void main(String[] args) {
        treeWhatIs0To2();
        leafIsOfLevels0ToD();
        leafPastsAreBelow2ToTheLevel();
        leafTellsThreeKinds();
        ofNoSignsItIsOneLeaf();
        eightIsForNodesBelowDAlone();
        costIsByOwnFromCounts0On();
        countsAreHalvedAsTold();
        ofLikeOnesTheFirstNodeIsALeaf();
        ofLikeOnesTheFirstNodeIsALeafAboveLevelD();
        ofLikeOnesANodeBelowIsALeaf();
        leavesGoToLevelD();
        DUE.end();
    }

    /** Promise 16: "its COST (0), leaves (1), the greatest LEVEL of a leaf (2). BAD". */
    private static void treeWhatIs0To2() {
        TreeOdds x = Due.of(1, 0, "01001");
        for (int what : new int[] {LEAST, -1, 3, MOST}) DUE.refused("tree(" + what + ")", x, () -> x.tree(what), BAD);
        int[] want = {112, 2, 1};
        for (int what = 0; what <= 2; what++) {
            int w = what;
            DUE.stays("tree(" + what + ")", x, () -> x.tree(w), want[w]);
        }
    }

    /** Promise 17: "Whether a NODE is a leaf of the BEST TREE ... BAD". */
    private static void leafIsOfLevels0ToD() {
        for (int depth = 0; depth <= 6; depth++) {
            TreeOdds x = Due.of(depth, 0, "0110100110");
            for (int l : new int[] {LEAST, -1, depth + 1, depth + 2, 31, 32, 33, 64, MOST}) {
                DUE.refused("leaf(" + l + ", 0) of DEPTH " + depth, x, () -> x.leaf(l, 0), BAD);
            }
            for (int l = 0; l <= depth; l++) DUE.yes("leaf(" + l + ", 0)", x.leaf(l, 0) >= 0);
        }
    }

    private static void leafPastsAreBelow2ToTheLevel() {
        TreeOdds x = Due.of(6, 0, "0110100110");
        for (int l = 0; l <= 6; l++) {
            int level = l;
            for (int p : new int[] {LEAST, -1, 1 << l, (1 << l) + 1, MOST}) {
                DUE.refused("leaf(" + l + ", " + p + ")", x, () -> x.leaf(level, p), BAD);
            }
            for (int p : new int[] {0, (1 << l) - 1}) DUE.yes("leaf(" + l + ", " + p + ")", x.leaf(l, p) >= 0);
        }
    }

    /** Promise 17: "a leaf of the BEST TREE (1), parted in it (2), not in it (0)". */
    private static void leafTellsThreeKinds() {
        TreeOdds x = Due.of(2, 0, "0110110");
        int[][] want = {{0, 0, 2}, {1, 0, 1}, {1, 1, 2}, {2, 0, 0}, {2, 1, 1}, {2, 2, 0}, {2, 3, 1}};
        for (int[] w : want) DUE.stays("leaf(" + w[0] + ", " + w[1] + ")", x, () -> x.leaf(w[0], w[1]), w[2]);
    }

    private static void ofNoSignsItIsOneLeaf() {
        for (int depth = 0; depth <= 6; depth++) {
            TreeOdds x = Due.of(depth, 0, "");
            DUE.is("DEPTH " + depth + ": COST", x.tree(0), depth == 0 ? 0 : 8);
            DUE.is("DEPTH " + depth + ": leaves", x.tree(1), 1);
            DUE.is("DEPTH " + depth + ": greatest LEVEL", x.tree(2), 0);
            DUE.is("DEPTH " + depth + ": the first NODE", x.leaf(0, 0), 1);
            if (depth > 0) DUE.is("DEPTH " + depth + ": the last NODE", x.leaf(depth, (1 << depth) - 1), 0);
        }
    }

    /** "and 8 for each NODE of a LEVEL below D (leaf or not)". */
    private static void eightIsForNodesBelowDAlone() {
        String row = "10".repeat(20);
        int[] parted = {alone(row, "0", 0) + alone(row, "1", 0), alone(row, "", 0)};
        DUE.is("DEPTH 0: a leaf of LEVEL D", Due.of(0, 0, row).tree(0), parted[1]);
        DUE.is("DEPTH 1: two leaves of LEVEL D, one NODE above", Due.of(1, 0, row).tree(0), parted[0] + 8);
        TreeOdds x = Due.of(3, 0, row);
        DUE.is("DEPTH 3: leaves", x.tree(1), 2);
        DUE.is("DEPTH 3: two leaves below LEVEL D, one NODE above", x.tree(0), parted[0] + 24);
        TreeOdds y = Due.of(3, 0, "1");
        DUE.is("DEPTH 3: one leaf below LEVEL D", y.tree(0), 24);
    }

    /** What the SIGNS behind a past cost by its OWN alone, reckoned from the row. */
    private static int alone(String row, String past, int guesser) {
        int a = 0, b = 0, cost = 0;
        String all = "000000" + row;
        String behind = new StringBuilder(past).reverse().toString();
        for (int i = 6; i < all.length(); i++) {
            if (!all.substring(0, i).endsWith(behind)) continue;
            boolean one = all.charAt(i) == '1';
            long p = Plain.opinion(guesser, a, b);
            cost += Plain.bits(one ? p : 65536 - p);
            if (one) b++;
            else a++;
            if (a > 60 || b > 60) {
                a /= 2;
                b /= 2;
            }
        }
        return cost;
    }

    /** "that of the SIGNS behind it as they came by its OWN from counts 0 on". */
    private static void costIsByOwnFromCounts0On() {
        for (int g = 0; g <= 3; g++) {
            TreeOdds x = Due.of(0, g, "0110100110010110");
            DUE.is("GUESSER " + g + ", DEPTH 0", x.tree(0), x.cost());
            x.sets(0, 1);
            int one = alone(Due.row(x), "", g), two = alone(Due.row(x), "0", g) + alone(Due.row(x), "1", g);
            DUE.is("GUESSER " + g + ", DEPTH 1", x.tree(0), 8 + Math.min(one, two));
        }
    }

    /** "(halving as told)": where 1s are 60 at most, 61 and more. */
    private static void countsAreHalvedAsTold() {
        for (int n : new int[] {60, 61, 62, 63, 92, 93, 100}) {
            for (int g = 0; g <= 3; g++) {
                String row = "1".repeat(n - 3) + "011";
                TreeOdds x = Due.of(0, g, row);
                DUE.is(n + " by GUESSER " + g, x.tree(0), alone(row, "", g));
            }
        }
    }

    private static void root(int depth, String row, int partedLess, int kind) {
        TreeOdds x = Due.of(depth, 0, row);
        int leaf = alone(row, "", 0), parted = 0;
        for (String s : new String[] {"0", "1"}) {
            int below = depth == 1 ? Integer.MAX_VALUE : alone(row, s + "0", 0) + alone(row, s + "1", 0);
            parted += Math.min(alone(row, s, 0), below) + (depth == 1 ? 0 : 8);
        }
        DUE.is(row + ": the first NODE parted is cheaper by", leaf - parted, partedLess);
        DUE.is(row + ": leaf(0, 0)", x.leaf(0, 0), kind);
        DUE.is(row + ": COST", x.tree(0), 8 + Math.min(leaf, parted));
        DUE.is(row + ": leaves", x.tree(1) == 1 ? 1 : 2, kind);
    }

    /** "of like ones the smaller one at the nearest NODE (a leaf rather than parted)". */
    private static void ofLikeOnesTheFirstNodeIsALeaf() {
        root(1, "110100", -1, 1);
        root(1, "0", 0, 1);
        root(1, "01001", 1, 2);
    }

    private static void ofLikeOnesTheFirstNodeIsALeafAboveLevelD() {
        root(2, "1100000", -1, 1);
        root(2, "1001110", 0, 1);
        root(2, "10", 0, 1);
        root(2, "110001", 1, 2);
    }

    private static void below(String row, int partedLess, int kind) {
        TreeOdds x = Due.of(2, 0, row);
        int parted = alone(row, "00", 0) + alone(row, "01", 0);
        DUE.is(row + ": past 0 parted is cheaper by", alone(row, "0", 0) - parted, partedLess);
        DUE.is(row + ": leaf(0, 0)", x.leaf(0, 0), 2);
        DUE.is(row + ": leaf(1, 0)", x.leaf(1, 0), kind);
        DUE.is(row + ": leaf(2, 0)", x.leaf(2, 0), kind - 1);
        DUE.is(row + ": leaf(2, 2)", x.leaf(2, 2), kind - 1);
    }

    private static void ofLikeOnesANodeBelowIsALeaf() {
        below("0100100101", -1, 1);
        below("0110110", 0, 1);
        below("11000011", 1, 2);
    }

    /** Promise 16: "the greatest LEVEL of a leaf": from 0 to D. */
    private static void leavesGoToLevelD() {
        String[] parts = {"", "10", "01", "101", "1101", "01001", "010001"};
        int[] leaves = {1, 2, 3, 4, 5, 6, 8};
        for (int depth = 0; depth <= 6; depth++) {
            TreeOdds x = Due.of(depth, 0, parts[depth].repeat(20).substring(0, depth == 0 ? 0 : 20));
            DUE.is("DEPTH " + depth + ": greatest LEVEL", x.tree(2), depth);
            DUE.is("DEPTH " + depth + ": leaves", x.tree(1), leaves[depth]);
            int found = 0;
            for (int p = 0; p < 1 << depth; p++) found += x.leaf(depth, p) == 1 ? 1 : 0;
            DUE.yes("DEPTH " + depth + ": a leaf there", found > 0);
            x.empties();
            DUE.is("DEPTH " + depth + ": greatest LEVEL of none", x.tree(2), 0);
        }
    }
}
