/** The edges that the document names for guesses: 'Terms' and promises 9 to 15, a sentence each. */
public final class GuessEdgesTest {
    private static final Due DUE = new Due("GuessEdgesTest");
    private static final int BAD = TreeOdds.BAD;
    private static final int LEAST = Integer.MIN_VALUE, MOST = Integer.MAX_VALUE;

    public static void main(String[] args) {
        pastBeyondTheBeginningIs0s();
        pastHasTheNearestLowest();
        nodesHaveLevels0ToD();
        nodePastsAreBelow2ToTheLevel();
        nodeWhatIs0To3();
        countsAreHalvedAbove60();
        bothCountsAreHalvedAndCut();
        eachNodeIsHalvedByItsOwnCounts();
        guessersAreCut();
        guessersStayWithin1And65535();
        lastCutsBothCounts();
        weightIs32768AtFirst();
        weightIs64AtLeast();
        weightIs65472AtMost();
        weightIsMadeOfWhatWasAhead();
        guessOfLevelDIsItsOwn();
        guessIsCut();
        guessStaysWithin1And65535();
        bitsGoByTheGreatestBit();
        wasIsBadWhereThereIsNone();
        wasWhatIs0Or1();
        costOfNoneIs0();
        costByIsOfDepth0To6AndGuesser0To3();
        bestWhatIs0To2();
        bestOfLikeOnesIsTheLeastDepthThenGuesser();
        bestIsOfAllDepthsAndGuessers();
        bestIsOfTheRowThereIs();
        followsIs1To16();
        followsIs1From32768On();
        followsGoesOnBeyondHundred();
        DUE.end();
    }

    /** "PAST of a SIGN: the SIGNS ahead of it ...; beyond the beginning 0s". */
    private static void pastBeyondTheBeginningIs0s() {
        TreeOdds x = Due.of(6, 0, "");
        for (int k = 0; k <= 8; k++) {
            // Behind k 1s the PAST has k 1s, if there is room for them, and 0s behind.
            int past = (1 << Math.min(k, 6)) - 1;
            int had = x.node(6, past, 1);
            x.sign(1);
            DUE.is("SIGN " + k + ": 1s of its PAST", x.node(6, past, 1), had + 1);
            DUE.is("SIGN " + k + ": 1s of all", x.node(0, 0, 1), k + 1);
        }
        DUE.is("two have had all six", x.node(6, 63, 1), 3);
        TreeOdds y = Due.of(3, 0, "1");
        for (int l = 0; l <= 3; l++) DUE.is("the first SIGN, LEVEL " + l, y.node(l, 0, 1), 1);
        y.drop();
        y.sign(0);
        for (int l = 0; l <= 3; l++) DUE.is("another first SIGN, LEVEL " + l, y.node(l, 0, 0), 1);
    }

    /** "the nearest first"; promise 11: "its SIGNS as bits, the nearest the lowest". */
    private static void pastHasTheNearestLowest() {
        TreeOdds x = Due.of(3, 0, "1001");
        DUE.is("behind 100", x.node(3, 4, 1), 1);
        DUE.is("not behind 001", x.node(3, 1, 1), 0);
        DUE.is("the 0 behind 1", x.node(3, 1, 0), 1);
        DUE.is("the 0 behind 10", x.node(3, 2, 0), 1);
        DUE.is("the first two of 100", x.node(2, 0, 1), 2);
        TreeOdds y = Due.of(6, 0, "1000000");
        DUE.is("the last 0 is behind 100000", y.node(6, 32, 0), 1);
        y.sign(1);
        DUE.is("the 1 behind 1000000 has lost it", y.node(6, 0, 1), 2);
    }

    /** "NODES: pasts of 0 to D SIGNS". */
    private static void nodesHaveLevels0ToD() {
        for (int depth = 0; depth <= 6; depth++) {
            TreeOdds x = Due.of(depth, 0, "01101");
            for (int l : new int[] {LEAST, -1, depth + 1, depth + 2, 31, 32, 33, 64, MOST}) {
                DUE.refused("node(" + l + ", 0, 0) of DEPTH " + depth, x, () -> x.node(l, 0, 0), BAD);
            }
            for (int l = 0; l <= depth; l++) DUE.yes("node(" + l + ", 0, 0)", x.node(l, 0, 0) >= 1);
            DUE.is("nothing of these is refused", x.count(0), 9);
        }
    }

    private static void nodePastsAreBelow2ToTheLevel() {
        TreeOdds x = Due.of(6, 0, "01101");
        for (int l = 0; l <= 6; l++) {
            int level = l;
            for (int p : new int[] {LEAST, -1, 1 << l, (1 << l) + 1, MOST}) {
                DUE.refused("node(" + l + ", " + p + ", 2)", x, () -> x.node(level, p, 2), BAD);
            }
            for (int p : new int[] {0, (1 << l) - 1}) DUE.yes("node(" + l + ", " + p + ", 2)", x.node(l, p, 2) > 0);
        }
    }

    /** Promise 11: "0s (0), 1s (1), OWN (2), WEIGHT (3; of LEVEL D 65536). BAD". */
    private static void nodeWhatIs0To3() {
        TreeOdds x = Due.of(2, 0, "0001");
        for (int what : new int[] {LEAST, -1, 4, MOST}) DUE.refused("node(0, 0, " + what + ")", x, () -> x.node(0, 0, what), BAD);
        int[] want = {3, 1, 65536 * 3 / 10};
        for (int what = 0; what < 3; what++) {
            int w = what;
            DUE.stays("node(0, 0, " + what + ")", x, () -> x.node(0, 0, w), want[w]);
        }
        DUE.stays("WEIGHT of LEVEL 2 of 2", x, () -> x.node(2, 3, 3), 65536);
        DUE.yes("WEIGHT of LEVEL 1 of 2", x.node(1, 0, 3) < 65536);
    }

    /** "if a count is above 60 then, both are half of it (cut)": at 60, at 61, and at 61 again. */
    private static void countsAreHalvedAbove60() {
        for (int s = 0; s <= 1; s++) {
            TreeOdds x = Due.of(0, 0, "");
            int[][] due = {{59, 59}, {60, 60}, {61, 30}, {62, 31}, {90, 59}, {91, 60}, {92, 30}, {93, 31}, {100, 38}};
            for (int[] d : due) {
                while (x.count(4) < d[0]) x.sign(s);
                DUE.is("of " + d[0] + " times " + s, x.node(0, 0, s), d[1]);
                DUE.is("of none other", x.node(0, 0, 1 - s), 0);
            }
        }
    }

    private static void bothCountsAreHalvedAndCut() {
        for (int others : new int[] {0, 1, 2, 3, 38, 39}) {
            for (int s = 0; s <= 1; s++) {
                TreeOdds x = Due.of(0, 0, ("" + (1 - s)).repeat(others) + ("" + s).repeat(60));
                DUE.is("60: this count", x.node(0, 0, s), 60);
                DUE.is("60: the other count", x.node(0, 0, 1 - s), others);
                x.sign(s);
                DUE.is("61: this count", x.node(0, 0, s), 30);
                DUE.is("61: the other count", x.node(0, 0, 1 - s), others / 2);
            }
        }
    }

    private static void eachNodeIsHalvedByItsOwnCounts() {
        // All but the first SIGN are behind a 1: LEVEL 1 has 60 when LEVEL 0 has 61.
        TreeOdds x = Due.of(2, 0, "1".repeat(61));
        DUE.is("LEVEL 0 of 61", x.node(0, 0, 1), 30);
        DUE.is("LEVEL 1 of 61", x.node(1, 1, 1), 60);
        DUE.is("LEVEL 2 of 61", x.node(2, 3, 1), 59);
        x.sign(1);
        DUE.is("LEVEL 0 of 62", x.node(0, 0, 1), 31);
        DUE.is("LEVEL 1 of 62", x.node(1, 1, 1), 30);
        DUE.is("LEVEL 2 of 62", x.node(2, 3, 1), 60);
        x.sign(1);
        DUE.is("LEVEL 2 of 63", x.node(2, 3, 1), 30);
    }

    private static long told(int guesser, long a, long b) {
        if (guesser == 3) return told(0, a / 2, b / 2);
        if (guesser == 0) return 65536 * (2 * b + 1) / (2 * a + 2 * b + 2);
        return guesser == 1 ? 65536 * (b + 1) / (a + b + 2) : 65536 * (4 * b + 1) / (4 * a + 4 * b + 2);
    }

    /** "GUESSERS tell ... how likely 1 is next, as parts of 65536, cut". */
    private static void guessersAreCut() {
        for (int g = 0; g <= 3; g++) {
            for (int a = 0; a <= 9; a++) {
                for (int b = 0; b <= 9; b++) {
                    TreeOdds x = Due.of(0, g, "0".repeat(a) + "1".repeat(b));
                    DUE.is("GUESSER " + g + " of " + a + " and " + b, x.node(0, 0, 2), told(g, a, b));
                }
            }
        }
        // 65536 by 6 is 10922 and two thirds, 5 times as much 54613 and a third.
        DUE.is("EVEN of 2 and 0", Due.of(0, 0, "00").guess(), 10922);
        DUE.is("EVEN of 0 and 2", Due.of(0, 0, "11").guess(), 54613);
        DUE.is("LAPLACE of 1 and 0", Due.of(0, 1, "0").guess(), 21845);
        DUE.is("LAPLACE of 0 and 1", Due.of(0, 1, "1").guess(), 43690);
        DUE.is("BOLD of 1 and 0", Due.of(0, 2, "0").guess(), 10922);
        DUE.is("BOLD of 0 and 1", Due.of(0, 2, "1").guess(), 54613);
    }

    /** "All are 1 at least and 65535 at most": 60 of one SIGN alone is the farthest that COUNTS go. */
    private static void guessersStayWithin1And65535() {
        int[][] ends = {{537, 64998}, {1057, 64478}, {270, 65265}, {1057, 64478}};
        for (int g = 0; g <= 3; g++) {
            for (int s = 0; s <= 1; s++) {
                TreeOdds x = Due.of(0, g, ("" + s).repeat(60));
                DUE.is("GUESSER " + g + " of 60 times " + s, x.node(0, 0, 2), ends[g][s]);
                DUE.is("GUESSER " + g + " of 60 times " + s + ": guess", x.guess(), ends[g][s]);
                x.sign(s);
                DUE.is("GUESSER " + g + " of 61 times " + s, x.guess(), told(g, s == 0 ? 30 : 0, s == 1 ? 30 : 0));
            }
        }
    }

    /** "3 LAST: as EVEN, with both counts by 2 (cut)". */
    private static void lastCutsBothCounts() {
        DUE.is("of 1 and 0", Due.of(0, 3, "0").guess(), 32768);
        DUE.is("of 0 and 1", Due.of(0, 3, "1").guess(), 32768);
        DUE.is("of 1 and 1", Due.of(0, 3, "01").guess(), 32768);
        DUE.is("of 2 and 1", Due.of(0, 3, "001").guess(), 16384);
        DUE.is("of 1 and 2", Due.of(0, 3, "011").guess(), 49152);
        DUE.is("of 3 and 3", Due.of(0, 3, "000111").guess(), 32768);
        TreeOdds x = Due.of(0, 3, "00111");
        DUE.is("COUNTS are whole", x.node(0, 0, 0) * 10 + x.node(0, 0, 1), 23);
    }

    /** "WEIGHT of a NODE of a LEVEL below D: parts of 65536 (32768 at first)". */
    private static void weightIs32768AtFirst() {
        for (int depth = 0; depth <= 6; depth++) {
            TreeOdds x = Due.of(depth, 0, "");
            for (int l = 0; l <= depth; l++) {
                DUE.is("DEPTH " + depth + ", LEVEL " + l, x.node(l, (1 << l) - 1, 3), l == depth ? 65536 : 32768);
            }
        }
    }

    /**
     * A row of DEPTH 1 whose last SIGN makes the first NODE's WEIGHT: what it would be uncut at the ends is reckoned
     * from what the NODES tell ahead of it, so that the row is seen to stand where it should.
     */
    private static void weightBy(int guesser, String row, long uncut, int want) {
        int last = row.length() - 1;
        TreeOdds x = Due.of(1, guesser, row.substring(0, last));
        int s = row.charAt(last) - '0', nearest = row.charAt(last - 1) - '0';
        long w = x.node(0, 0, 3), own = x.node(0, 0, 2), child = x.node(1, nearest, 2);
        long o = s == 1 ? own : 65536 - own, c = s == 1 ? child : 65536 - child;
        DUE.is(row + ": WEIGHT, the ends not looked at", 65536 * w * o / (w * o + (65536 - w) * c), uncut);
        x.sign(s);
        DUE.is(row + ": WEIGHT", x.node(0, 0, 3), want);
    }

    /** "64 at least". */
    private static void weightIs64AtLeast() {
        weightBy(3, "10110101010101010", 65, 65);
        weightBy(3, "1101010101010101", 64, 64);
        weightBy(3, "1101010101010100101", 63, 64);
        weightBy(2, "1010101010110101", 62, 64);
    }

    /** "65472 at most". */
    private static void weightIs65472AtMost() {
        String row = "101010101010101010101010000111010001000010101000100001110001011001011111000110011100";
        weightBy(0, row, 65471, 65471);
        weightBy(1, "01".repeat(9) + "11" + "01".repeat(26) + "000111111111", 65472, 65472);
        weightBy(0, row + "10010111100", 65473, 65472);
    }

    /** "with o the likelihood of s by its OWN, c by its CHILD's GUESS, (both as ahead)". */
    private static void weightIsMadeOfWhatWasAhead() {
        TreeOdds x = Due.of(2, 0, "11");
        // LEVEL 0: o 49152, c 32768.
        DUE.is("11: LEVEL 0", x.node(0, 0, 3), 39321);
        DUE.is("11: LEVEL 1", x.node(1, 1, 3), 32768);
        // LEVEL 1: half of 49152 and half of 32768; LEVEL 0: 39321 of 54613 and 26215 of 40960.
        DUE.is("11: guess", x.guess(), 49151);
        x.sign(0);
        // LEVEL 0: o 65536 less 54613, c 65536 less 40960; LEVEL 1: o 16384, c 32768.
        DUE.is("110: LEVEL 0", x.node(0, 0, 3), 26214);
        DUE.is("110: LEVEL 1", x.node(1, 1, 3), 21845);
        DUE.is("110: a NODE that is not of the PAST", x.node(1, 0, 3), 32768);
    }

    /** "GUESS for a PAST: of the NODE of LEVEL D its OWN". */
    private static void guessOfLevelDIsItsOwn() {
        TreeOdds x = Due.of(0, 0, "0111");
        DUE.is("DEPTH 0: guess", x.guess(), 65536 * 7 / 10);
        DUE.is("DEPTH 0: OWN", x.node(0, 0, 2), 65536 * 7 / 10);
        TreeOdds y = Due.of(1, 0, "1");
        DUE.is("DEPTH 1: half of LEVEL 0, half of LEVEL 1", y.guess(), (49152 + 32768) / 2);
    }

    /** "by 65536, cut". */
    private static void guessIsCut() {
        DUE.is("100", Due.of(3, 0, "100").guess(), 32767);
        TreeOdds x = Due.of(1, 0, "100");
        long w = x.node(0, 0, 3), own = x.node(0, 0, 2), child = x.node(1, 0, 2), both = w * own + (65536 - w) * child;
        DUE.yes("something is left over", both % 65536 != 0);
        DUE.is("it is cut", x.guess(), both / 65536);
    }

    /** "1 at least, 65535 at most": OWNs stay within 270 and 65265, and so does what lies between them. */
    private static void guessStaysWithin1And65535() {
        for (int depth = 0; depth <= 6; depth++) {
            for (int s = 0; s <= 1; s++) {
                TreeOdds x = Due.of(depth, 2, "");
                for (int i = 0; i < 100; i++) {
                    x.sign(s);
                    DUE.yes("guess within its ends", x.guess() >= 270 && x.guess() <= 65265);
                }
            }
        }
        TreeOdds x = Due.of(0, 2, "0".repeat(60)), y = Due.of(0, 2, "1".repeat(60));
        DUE.is("the least guess", x.guess(), 270);
        DUE.is("the greatest guess", y.guess(), 65265);
    }

    /** "16 times (16 less the place of p's greatest bit) less the 4 bits behind that bit". */
    private static void bitsGoByTheGreatestBit() {
        DUE.is("p 32768 of a 1", Due.of(0, 0, "").sign(1), 16);
        DUE.is("p 32768 of a 0", Due.of(0, 0, "").sign(0), 16);
        DUE.is("p 32767", Due.of(3, 0, "100").sign(1), 32 - 15);
        DUE.is("p 32769", Due.of(3, 0, "100").sign(0), 16);
        DUE.is("p 16384", Due.of(0, 0, "1").sign(0), 32);
        DUE.is("p 49152", Due.of(0, 0, "1").sign(1), 16 - 8);
        // 10922 is 10101010101010, 54613 is 1101010101010101, 54614 1101010101010110.
        DUE.is("p 10922", Due.of(0, 0, "00").sign(1), 48 - 5);
        DUE.is("p 54613", Due.of(0, 0, "11").sign(1), 16 - 10);
        DUE.is("p 54614", Due.of(0, 0, "00").sign(0), 16 - 10);
        // The least and the greatest that a guess can give: 100001110, 100001111, 1111111011110001.
        DUE.is("p 270", Due.of(0, 2, "0".repeat(60)).sign(1), 128);
        DUE.is("p 271", Due.of(0, 2, "1".repeat(60)).sign(0), 128);
        DUE.is("p 65265", Due.of(0, 2, "1".repeat(60)).sign(1), 1);
        DUE.is("p 65266", Due.of(0, 2, "0".repeat(60)).sign(0), 1);
    }

    /** Promise 10: "THE GUESS that was ahead of SIGN k ... BAD". */
    private static void wasIsBadWhereThereIsNone() {
        for (int signs : new int[] {0, 1, 99, 100}) {
            TreeOdds x = Due.of(3, 0, "");
            if (signs > 0) x.draw(5, signs, 40);
            for (int what = 0; what <= 1; what++) {
                int w = what;
                for (int k : new int[] {LEAST, -1, signs, signs + 1, MOST}) {
                    DUE.refused("was(" + k + ", " + w + ") of " + signs, x, () -> x.was(k, w), BAD);
                }
            }
            if (signs == 0) continue;
            DUE.stays("was(0, 0)", x, () -> x.was(0, 0), 32768);
            DUE.stays("was(0, 1)", x, () -> x.was(0, 1), 16);
            int cost = x.was(signs - 1, 1), guess = x.was(signs - 1, 0), last = x.at(signs - 1);
            x.drop();
            DUE.is("the last: guess ahead of it", x.guess(), guess);
            DUE.is("the last: its cost", x.sign(last), cost);
        }
    }

    private static void wasWhatIs0Or1() {
        TreeOdds x = Due.of(3, 0, "10");
        for (int what : new int[] {LEAST, -1, 2, MOST}) DUE.refused("was(1, " + what + ")", x, () -> x.was(1, what), BAD);
        DUE.stays("was(1, 0)", x, () -> x.was(1, 0), 40960);
        DUE.stays("was(1, 1)", x, () -> x.was(1, 1), 24);
    }

    /** Promise 12, of no SIGNS, of one, and again of none. */
    private static void costOfNoneIs0() {
        TreeOdds x = new TreeOdds();
        DUE.stays("of none", x, x::cost, 0);
        x.sign(0);
        DUE.stays("of one", x, x::cost, 16);
        x.drop();
        DUE.stays("of none again", x, x::cost, 0);
        x.draw(5, 100, 50);
        x.empties();
        DUE.stays("of none behind 100", x, x::cost, 0);
    }

    /** Promise 13: "COST of THE ROW by DEPTH d and GUESSER g. BAD. All stays". */
    private static void costByIsOfDepth0To6AndGuesser0To3() {
        TreeOdds x = Due.of(2, 1, "0110100110010110");
        for (int d : new int[] {LEAST, -1, 7, 8, MOST}) DUE.refused("costBy(" + d + ", 0)", x, () -> x.costBy(d, 0), BAD);
        for (int g : new int[] {LEAST, -1, 4, 5, 6, MOST}) DUE.refused("costBy(0, " + g + ")", x, () -> x.costBy(0, g), BAD);
        for (int d : new int[] {0, 1, 5, 6}) {
            for (int g = 0; g <= 3; g++) {
                int guesser = g;
                DUE.stays("costBy(" + d + ", " + g + ")", x, () -> x.costBy(d, guesser), Due.of(d, g, Due.row(x)).cost());
            }
        }
        DUE.is("by its own", x.costBy(2, 1), x.cost());
        TreeOdds none = new TreeOdds();
        for (int d = 0; d <= 6; d++) DUE.is("of none", none.costBy(d, 3), 0);
    }

    /** Promise 14: "DEPTH (what 0), GUESSER (1), COST (2). BAD". */
    private static void bestWhatIs0To2() {
        TreeOdds x = Due.of(3, 0, "1011");
        for (int what : new int[] {LEAST, -1, 3, MOST}) DUE.refused("best(" + what + ")", x, () -> x.best(what), BAD);
        int[] want = {0, 3, 56};
        for (int what = 0; what <= 2; what++) {
            int w = what;
            DUE.stays("best(" + what + ")", x, () -> x.best(w), want[w]);
        }
        TreeOdds none = new TreeOdds();
        for (int what = 0; what <= 2; what++) DUE.is("of none: best(" + what + ")", none.best(what), 0);
    }

    private static void bestOf(String row, int[] first, int[] second) {
        TreeOdds x = Due.of(3, 0, row);
        int least = x.costBy(first[0], first[1]);
        DUE.is(row + ": like ones", x.costBy(second[0], second[1]), least);
        int dearer = 0;
        for (int i = 0; i < 28; i++) dearer += x.costBy(i / 4, i % 4) > least ? 1 : 0;
        DUE.is(row + ": the others are dearer", dearer, 26);
        DUE.is(row + ": DEPTH", x.best(0), first[0]);
        DUE.is(row + ": GUESSER", x.best(1), first[1]);
        DUE.is(row + ": COST", x.best(2), least);
    }

    /** Promise 14: "of like ones the least DEPTH, then GUESSER". */
    private static void bestOfLikeOnesIsTheLeastDepthThenGuesser() {
        bestOf("1010100", new int[] {1, 1}, new int[] {2, 1});
        bestOf("0010", new int[] {0, 1}, new int[] {0, 3});
        bestOf("101010011", new int[] {1, 3}, new int[] {2, 1});
        TreeOdds x = Due.of(6, 3, "1");
        DUE.is("one SIGN is like by all: DEPTH", x.best(0), 0);
        DUE.is("one SIGN is like by all: GUESSER", x.best(1), 0);
    }

    /** Promise 14: "DEPTH and GUESSER of the least COST": from DEPTH 0 to 6 and from GUESSER 0 to 3. */
    private static void bestIsOfAllDepthsAndGuessers() {
        // By each row one DEPTH and one GUESSER alone cost least: a part of it, and how many SIGNS it has.
        String[] rows = {
            "00000010 70", "111111110 89", "1111 71", "01111111 63", "001111111111000000 94", "00101010110101 62",
            "1010 99", "010110101 60", "01010101011111111111 65", "01000101001010101111111 70", "1100 85",
            "1000000001 68", "110110111011100111011 68", "010110110111011001011 71", "0110 79",
            "01000101010110101 64", "00111000111001111001 75", "110010000100010010100010 64", "1001 80",
            "100000000111100011 62", "0100001010101101 65", "010100101011000000001101 65", "11001 64",
            "010101011111110101101011 62", "01111010111110111 67", "00100101000010001000011 60", "111001 96",
            "0110111011010101011 93"};
        for (int i = 0; i < 28; i++) {
            String[] words = rows[i].split(" ");
            TreeOdds x = Due.of(3, 0, words[0].repeat(30).substring(0, Integer.parseInt(words[1])));
            int dearer = 0;
            for (int j = 0; j < 28; j++) dearer += x.costBy(j / 4, j % 4) > x.costBy(i / 4, i % 4) ? 1 : 0;
            DUE.is(rows[i] + ": the others are dearer", dearer, 27);
            DUE.is(rows[i] + ": DEPTH", x.best(0), i / 4);
            DUE.is(rows[i] + ": GUESSER", x.best(1), i % 4);
            DUE.is(rows[i] + ": COST", x.best(2), x.costBy(i / 4, i % 4));
        }
    }

    /** Asked again, when the row has become another one of its length, or another length. */
    private static void bestIsOfTheRowThereIs() {
        TreeOdds x = Due.of(3, 0, "0");
        DUE.is("of 0", x.best(2), 16);
        x.empties();
        DUE.is("of none", x.best(2), 0);
        // Neighbours differ in the last SIGN, in the first one, in all of them, or in how many they are.
        String[] rows = {
            "0000000001", "0000000000", "1000000000", "0111111111", "111111111", "0101010101", "1010101010", "1010101011",
            "101010101"};
        for (int i = 0; i < 4 * rows.length; i++) {
            int turn = i % (2 * rows.length);
            String row = rows[turn < rows.length ? turn : 2 * rows.length - 1 - turn];
            x.empties();
            Due.put(x, row);
            DUE.is("of " + row, x.best(2), Due.of(6, 1, row).best(2));
        }
        TreeOdds y = Due.of(3, 0, "0000000001");
        y.best(0);
        y.drop();
        y.sign(0);
        DUE.is("the last SIGN is another", y.best(2), Due.of(3, 0, "0000000000").best(2));
        y.back();
        y.back();
        DUE.is("behind back()", y.best(2), Due.of(3, 0, "0000000001").best(2));
        TreeOdds full = Due.of(2, 2, "01".repeat(50));
        for (int i = 0; i < 2; i++) DUE.stays("of 100", full, () -> full.best(2), full.costBy(full.best(0), full.best(1)));
    }

    /** Promise 15: "The n (1 .. 16) SIGNS ... BAD. All stays". */
    private static void followsIs1To16() {
        TreeOdds x = Due.of("(100)x20");
        for (int n : new int[] {LEAST, -1, 0, 17, 18, 32, MOST}) DUE.refused("follows(" + n + ")", x, () -> x.follows(n), BAD);
        DUE.stays("follows(1)", x, () -> x.follows(1), 1);
        DUE.stays("follows(2)", x, () -> x.follows(2), 1);
        DUE.stays("follows(4)", x, () -> x.follows(4), 0b1001);
        DUE.stays("follows(15)", x, () -> x.follows(15), 0b001001001001001);
        DUE.stays("follows(16)", x, () -> x.follows(16), 0b1001001001001001);
    }

    /** Promise 15: "1, if THE GUESS is 32768 or more". */
    private static void followsIs1From32768On() {
        TreeOdds x = Due.of(3, 0, "100"), y = Due.of(3, 0, "01");
        DUE.is("THE GUESS", x.guess(), 32767);
        DUE.stays("by 32767", x, () -> x.follows(1), 0);
        DUE.is("THE GUESS", y.guess(), 32768);
        DUE.stays("by 32768", y, () -> y.follows(1), 1);
    }

    /** Promise 15: they only would come, so that 100 SIGNS are no end for them. */
    private static void followsGoesOnBeyondHundred() {
        for (int signs : new int[] {83, 84, 85, 99, 100}) {
            TreeOdds x = new TreeOdds();
            Plain y = new Plain();
            x.draw(31, signs, 60);
            y.row = Due.row(x);
            DUE.stays("16 behind " + signs, x, () -> x.follows(16), y.follows(16));
            DUE.is("SIGNS", x.count(4), signs);
        }
    }
}
