import java.math.BigInteger;

/** The edges that the document names for the row: 'What it is' and promises 1 to 8, a sentence each. */
public final class RowEdgesTest {
    private static final Due DUE = new Due("RowEdgesTest");
    private static final int BAD = TreeOdds.BAD, NO = TreeOdds.NO, FULL = TreeOdds.FULL;
    private static final int LEAST = Integer.MIN_VALUE, MOST = Integer.MAX_VALUE;

    public static void main(String[] args) {
        noneAtFirst();
        hundredSignsAtMost();
        signIsNoughtOrOne();
        signIsFullAtHundred();
        signIsBadAheadOfFull();
        signsAre1To64();
        signsAreTheLowestBits();
        signsAreFullAboveHundred();
        signsAreBadAheadOfFull();
        drawSeedIs0To999999();
        drawNIs1To100();
        drawPIs0To100();
        drawIsOneBelowP();
        drawKeepsWhatIsLeftOver();
        drawIsFullAboveHundred();
        drawIsBadAheadOfFull();
        setsWhatIs0Or1();
        setsDepthIs0To6();
        setsGuesserIs0To3();
        setsLetsTheRowComeAnew();
        emptiesTellsHowManyThereWere();
        dropOfNoneIsNo();
        dropIsAsIfItHadNotCome();
        atIsBadWhereThereIsNone();
        DUE.end();
    }

    private static TreeOdds having(int signs) {
        TreeOdds x = new TreeOdds();
        if (signs > 0) x.draw(4711, signs, 50);
        return x;
    }

    /** "100 at most (none at first)"; promise 1: "As told; no SIGNS". */
    private static void noneAtFirst() {
        TreeOdds x = new TreeOdds();
        DUE.is("SIGNS at first", x.count(4), 0);
        DUE.is("DEPTH at first", x.count(5), 3);
        DUE.is("GUESSER at first", x.count(6), 0);
        DUE.is("STATES at first", x.count(7), 0);
        DUE.is("bytes at first", x.count(3), 0);
        for (int what = 0; what < 3; what++) DUE.is("refused at first", x.count(what), 0);
        DUE.refused("at(0) at first", x, () -> x.at(0), BAD);
        DUE.refused("drop() at first", x, x::drop, NO);
        DUE.refused("back() at first", x, x::back, NO);
    }

    /** "A ROW of SIGNS, 100 at most": by each call that lets SIGNS come. */
    private static void hundredSignsAtMost() {
        TreeOdds a = having(99), b = having(99), c = having(99), d = having(99);
        DUE.yes("the 100th by sign", a.sign(0) > 0);
        DUE.yes("the 100th by signs", b.signs(1L, 1) > 0);
        DUE.is("the 100th by draw", c.draw(1, 1, 100), 1);
        Due.type(d, "1");
        DUE.is("the 100th by told", d.told(), 1);
        for (TreeOdds x : new TreeOdds[] {a, b, c, d}) DUE.is("100 SIGNS", x.count(4), 100);
        DUE.refused("the 101st by sign", a, () -> a.sign(0), FULL);
        DUE.refused("the 101st by signs", b, () -> b.signs(1L, 1), FULL);
        DUE.refused("the 101st by draw", c, () -> c.draw(1, 1, 100), FULL);
        DUE.stays("the 101st by told", d, d::told, -10);
    }

    /** Promise 2: "A SIGN comes ... BAD". */
    private static void signIsNoughtOrOne() {
        TreeOdds x = having(5);
        for (int s : new int[] {LEAST, -2, -1, 2, 3, MOST}) DUE.refused("sign(" + s + ")", x, () -> x.sign(s), BAD);
        DUE.yes("sign(0)", x.sign(0) > 0);
        DUE.is("it came", x.at(5), 0);
        DUE.yes("sign(1)", x.sign(1) > 0);
        DUE.is("it came", x.at(6), 1);
    }

    /** Promise 2: "FULL: 100". */
    private static void signIsFullAtHundred() {
        TreeOdds x = having(98);
        DUE.yes("behind 98", x.sign(1) > 0);
        DUE.yes("behind 99", x.sign(1) > 0);
        DUE.refused("behind 100", x, () -> x.sign(1), FULL);
        x.drop();
        DUE.yes("behind 99 again", x.sign(0) > 0);
        DUE.refused("behind 100 again", x, () -> x.sign(0), FULL);
        x.empties();
        DUE.is("behind none", x.sign(1), 16);
    }

    /** "Refused ... the first of: BAD, NO, FULL". */
    private static void signIsBadAheadOfFull() {
        TreeOdds x = having(100);
        DUE.refused("sign(2) behind 100", x, () -> x.sign(2), BAD);
        DUE.refused("sign(-1) behind 100", x, () -> x.sign(-1), BAD);
        DUE.is("times FULL", x.count(2), 0);
    }

    /** Promise 3: "n (1 .. 64) SIGNS ... BAD". */
    private static void signsAre1To64() {
        for (int n : new int[] {1, 2, 63, 64}) {
            TreeOdds x = new TreeOdds();
            DUE.yes("signs(0, " + n + ")", x.signs(0L, n) > 0);
            DUE.is("signs(0, " + n + "): SIGNS", x.count(4), n);
        }
        TreeOdds x = having(5);
        for (int n : new int[] {LEAST, -1, 0, 65, 66, MOST}) {
            DUE.refused("signs(0, " + n + ")", x, () -> x.signs(0L, n), BAD);
        }
    }

    /** Promise 3: "bits of a number, the lowest first". */
    private static void signsAreTheLowestBits() {
        TreeOdds x = new TreeOdds();
        DUE.is("signs(-1, 1)", x.signs(-1L, 1), 16);
        DUE.row("one SIGN of 64 set bits", x, "1");
        x.signs(-2L, 1);
        DUE.row("the lowest of them", x, "10");
        TreeOdds y = new TreeOdds();
        y.signs(Long.MIN_VALUE, 63);
        DUE.row("bit 63 is the 64th", y, "0".repeat(63));
        y.empties();
        y.signs(Long.MIN_VALUE, 64);
        DUE.row("bit 63", y, "0".repeat(63) + "1");
        y.empties();
        y.signs(Long.MAX_VALUE, 64);
        DUE.row("all but bit 63", y, "1".repeat(63) + "0");
    }

    /** Promise 3: "FULL: more than 100 (none comes)". */
    private static void signsAreFullAboveHundred() {
        for (int there : new int[] {35, 36}) {
            TreeOdds x = having(there);
            DUE.yes("64 behind " + there, x.signs(0x123456789L, 64) > 0);
            DUE.is("SIGNS", x.count(4), there + 64);
        }
        TreeOdds x = having(37);
        String row = Due.row(x);
        DUE.refused("64 behind 37", x, () -> x.signs(-1L, 64), FULL);
        DUE.row("none comes", x, row);
        DUE.yes("63 behind 37", x.signs(-1L, 63) > 0);
        DUE.refused("1 behind 100", x, () -> x.signs(-1L, 1), FULL);
    }

    private static void signsAreBadAheadOfFull() {
        TreeOdds x = having(100);
        DUE.refused("n 0 behind 100", x, () -> x.signs(0L, 0), BAD);
        DUE.refused("n 65 behind 100", x, () -> x.signs(0L, 65), BAD);
        DUE.refused("n 64 behind 100", x, () -> x.signs(0L, 64), FULL);
    }

    /** Promise 4: "SEED (0 .. 999999)". */
    private static void drawSeedIs0To999999() {
        TreeOdds x = having(5);
        for (int seed : new int[] {LEAST, -1, 1000000, MOST}) {
            DUE.refused("draw(" + seed + ", 1, 50)", x, () -> x.draw(seed, 1, 50), BAD);
        }
        // The first X by 65536, by 100 left over: 0, 38, 90, 28.
        int[][] first = {{0, 0}, {1, 38}, {999998, 90}, {999999, 28}};
        for (int[] f : first) {
            DUE.is("draw(" + f[0] + ", 1, " + f[1] + ")", x.draw(f[0], 1, f[1]), 0);
            DUE.is("draw(" + f[0] + ", 1, " + (f[1] + 1) + ")", x.draw(f[0], 1, f[1] + 1), 1);
        }
    }

    /** Promise 4: "n (1 .. 100) SIGNS are drawn". */
    private static void drawNIs1To100() {
        for (int n : new int[] {1, 2, 99, 100}) {
            TreeOdds x = new TreeOdds();
            DUE.is("draw(3, " + n + ", 100)", x.draw(3, n, 100), n);
            DUE.is("SIGNS", x.count(4), n);
        }
        TreeOdds x = new TreeOdds();
        for (int n : new int[] {LEAST, -1, 0, 101, MOST}) {
            DUE.refused("draw(3, " + n + ", 50)", x, () -> x.draw(3, n, 50), BAD);
        }
    }

    /** Promise 4: "p (0 .. 100)". */
    private static void drawPIs0To100() {
        TreeOdds x = new TreeOdds();
        for (int p : new int[] {LEAST, -1, 101, MOST}) DUE.refused("draw(3, 9, " + p + ")", x, () -> x.draw(3, 9, p), BAD);
        DUE.is("p 0", x.draw(3, 40, 0), 0);
        DUE.is("p 100", x.draw(3, 40, 100), 40);
        DUE.row("p 0, then p 100", x, "0".repeat(40) + "1".repeat(40));
    }

    /** Promise 4: "1, if X by 65536 (cut), by 100 left over is below p: how many are 1". */
    private static void drawIsOneBelowP() {
        // What is left over is 0 by seed 0, 1 by seed 70, 98 by seed 15, 99 by seed 194.
        int[][] left = {{0, 0}, {70, 1}, {15, 98}, {194, 99}};
        for (int[] l : left) {
            for (int p = Math.max(0, l[1] - 1); p <= Math.min(100, l[1] + 2); p++) {
                TreeOdds x = new TreeOdds();
                int want = l[1] < p ? 1 : 0;
                DUE.is("draw(" + l[0] + ", 1, " + p + ")", x.draw(l[0], 1, p), want);
                DUE.is("the SIGN of it", x.at(0), want);
            }
        }
    }

    /** Promise 4: "X times 1103515245 and 12345, by 2147483648 what is left over". */
    private static void drawKeepsWhatIsLeftOver() {
        BigInteger times = BigInteger.valueOf(1103515245), and = BigInteger.valueOf(12345), by = BigInteger.ONE.shiftLeft(31);
        for (int seed : new int[] {0, 1, 2, 500000, 999998, 999999}) {
            TreeOdds x = new TreeOdds();
            BigInteger number = BigInteger.valueOf(seed);
            StringBuilder row = new StringBuilder();
            for (int i = 0; i < 100; i++) {
                number = number.multiply(times).add(and).mod(by);
                row.append(number.longValue() / 65536 % 100 < 50 ? '1' : '0');
            }
            DUE.is("draw(" + seed + ", 100, 50)", x.draw(seed, 100, 50), row.chars().filter(c -> c == '1').count());
            DUE.row("seed " + seed, x, row.toString());
        }
    }

    /** Promise 4: "FULL". */
    private static void drawIsFullAboveHundred() {
        TreeOdds x = having(60), y = having(60), z = having(1);
        DUE.refused("41 behind 60", x, () -> x.draw(0, 41, 50), FULL);
        DUE.is("40 behind 60", x.draw(0, 40, 100), 40);
        DUE.is("39 behind 60", y.draw(0, 39, 100), 39);
        DUE.refused("2 behind 99", y, () -> y.draw(0, 2, 100), FULL);
        DUE.refused("100 behind 1", z, () -> z.draw(0, 100, 50), FULL);
        DUE.is("99 behind 1", z.draw(0, 99, 0), 0);
    }

    private static void drawIsBadAheadOfFull() {
        TreeOdds x = having(100);
        int[][] wrong = {{-1, 1, 1}, {1000000, 1, 1}, {0, 0, 1}, {0, 101, 1}, {0, 1, -1}, {0, 1, 101}};
        for (int[] w : wrong) {
            DUE.refused("draw, wrong, behind 100", x, () -> x.draw(w[0], w[1], w[2]), BAD);
        }
        DUE.refused("draw, right, behind 100", x, () -> x.draw(0, 1, 1), FULL);
    }

    /** Promise 5: "DEPTH (what 0), THE GUESSER (1 ...) ... BAD". */
    private static void setsWhatIs0Or1() {
        TreeOdds x = having(9);
        for (int what : new int[] {LEAST, -1, 2, MOST}) DUE.refused("sets(" + what + ", 0)", x, () -> x.sets(what, 0), BAD);
        DUE.is("sets(0, 2)", x.sets(0, 2), 3);
        DUE.is("sets(1, 2)", x.sets(1, 2), 0);
        DUE.is("DEPTH", x.count(5), 2);
        DUE.is("GUESSER", x.count(6), 2);
    }

    /** "DEPTH D (0 .. 6; 3 at first)". */
    private static void setsDepthIs0To6() {
        TreeOdds x = having(9);
        for (int v : new int[] {LEAST, -1, 7, 8, MOST}) DUE.refused("sets(0, " + v + ")", x, () -> x.sets(0, v), BAD);
        int was = 3;
        for (int v : new int[] {0, 1, 5, 6, 0, 6}) {
            DUE.is("sets(0, " + v + ")", x.sets(0, v), was);
            DUE.is("DEPTH", x.count(5), v);
            DUE.is("GUESSER stays", x.count(6), 0);
            was = v;
        }
    }

    /** Promise 5: "THE GUESSER (1; 0 .. 3)". */
    private static void setsGuesserIs0To3() {
        TreeOdds x = having(9);
        for (int v : new int[] {LEAST, -1, 4, 5, 6, MOST}) DUE.refused("sets(1, " + v + ")", x, () -> x.sets(1, v), BAD);
        int was = 0;
        for (int v : new int[] {0, 1, 2, 3, 0}) {
            DUE.is("sets(1, " + v + ")", x.sets(1, v), was);
            DUE.is("GUESSER", x.count(6), v);
            DUE.is("DEPTH stays", x.count(5), 3);
            was = v;
        }
    }

    /** Promise 5: "THE ROW comes anew by these": of no SIGNS, of one and of 100, as if it had been so at first. */
    private static void setsLetsTheRowComeAnew() {
        for (int signs : new int[] {0, 1, 100}) {
            for (int depth : new int[] {0, 6}) {
                TreeOdds x = having(signs), y = new TreeOdds();
                y.sets(0, depth);
                y.sets(1, 3);
                if (signs > 0) y.draw(4711, signs, 50);
                x.sets(0, 6 - depth);
                x.sets(0, depth);
                x.sets(1, 3);
                DUE.is("cost anew", x.cost(), y.cost());
                DUE.is("guess anew", x.guess(), y.guess());
                for (int p = 0; p < 1 << depth; p++) {
                    for (int what = 0; what < 3; what++) DUE.is("node anew", x.node(depth, p, what), y.node(depth, p, what));
                }
                for (int k = 0; k < signs; k++) DUE.is("was anew", x.was(k, 1), y.was(k, 1));
            }
        }
    }

    /** Promise 6: "All SIGNS go: how many there were". */
    private static void emptiesTellsHowManyThereWere() {
        for (int signs : new int[] {0, 1, 99, 100}) {
            TreeOdds x = having(signs), y = new TreeOdds();
            DUE.is("empties() of " + signs, x.empties(), signs);
            DUE.is("SIGNS", x.count(4), 0);
            DUE.is("empties() again", x.empties(), 0);
            DUE.is("100 come again", x.draw(8, 100, 30), y.draw(8, 100, 30));
            DUE.is("as in a new object: cost", x.cost(), y.cost());
            DUE.is("as in a new object: guess", x.guess(), y.guess());
        }
    }

    /** Promise 7: "how many are left ... NO: there is none". */
    private static void dropOfNoneIsNo() {
        TreeOdds x = having(2);
        DUE.is("of two", x.drop(), 1);
        DUE.is("of one", x.drop(), 0);
        DUE.refused("of none", x, x::drop, NO);
        DUE.is("STATES", x.count(7), 3);
        TreeOdds full = having(100);
        DUE.is("of 100", full.drop(), 99);
    }

    /** Promise 7: "The last SIGN goes, as if it had not come": also where COUNTS were halved by it. */
    private static void dropIsAsIfItHadNotCome() {
        for (int signs : new int[] {1, 60, 61, 62, 91, 92, 93, 100}) {
            TreeOdds x = new TreeOdds(), y = new TreeOdds();
            for (int i = 0; i < signs; i++) x.sign(1);
            for (int i = 0; i < signs - 1; i++) y.sign(1);
            DUE.is("drop() of " + signs, x.drop(), signs - 1);
            for (int l = 0; l <= 3; l++) {
                for (int what = 0; what <= 3; what++) {
                    int p = (1 << l) - 1, w = what;
                    DUE.is("of " + signs + ": node(" + l + ", " + p + ", " + w + ")", x.node(l, p, w), y.node(l, p, w));
                }
            }
            DUE.is("of " + signs + ": guess", x.guess(), y.guess());
            DUE.is("of " + signs + ": cost", x.cost(), y.cost());
        }
    }

    /** Promise 8: "SIGN k. BAD: there is none". */
    private static void atIsBadWhereThereIsNone() {
        for (int signs : new int[] {0, 1, 99, 100}) {
            TreeOdds x = new TreeOdds();
            if (signs > 0) x.draw(1, signs, 100);
            for (int k : new int[] {LEAST, -1, signs, signs + 1, MOST}) {
                DUE.refused("at(" + k + ") of " + signs, x, () -> x.at(k), BAD);
            }
            if (signs == 0) continue;
            DUE.stays("the first of " + signs, x, () -> x.at(0), 1);
            DUE.stays("the last of " + signs, x, () -> x.at(signs - 1), 1);
        }
        TreeOdds x = having(100);
        x.drop();
        DUE.refused("at(99) behind drop()", x, () -> x.at(99), BAD);
        x.empties();
        DUE.refused("at(0) behind empties()", x, () -> x.at(0), BAD);
        x.back();
        DUE.is("at(98) behind back()", x.at(98) & ~1, 0);
        DUE.refused("at(99) behind back()", x, () -> x.at(99), BAD);
    }
}
