/** The edges that the document names for writing: WRITING, READING and promises 18 and 19, a sentence each. */
public final class WritingEdgesTest {
    private static final Due DUE = new Due("WritingEdgesTest");
    private static final int BAD = TreeOdds.BAD, NONE = TreeOdds.NONE;
    private static final int LEAST = Integer.MIN_VALUE, MOST = Integer.MAX_VALUE;

    public static void main(String[] args) {
        lowIs0AndRange2ToThe32AtFirst();
        partOf1IsAtTheLowerEnd();
        rangeBy65536IsCut();
        bytesGoOutBelow2ToThe24();
        carryGoesIntoTheByteAhead();
        carryGoesOnThrough255s();
        carryGoesOutWithTheLastBytes();
        fourBytesGoOutAtTheEnd();
        writtenIsOfNoneOrAByte();
        writtenIsBadBelowNone();
        readsIsOfNoneOrAByte();
        readsIsByAnX1To255();
        readsByNoneDoesNotLookAtX();
        readIs1BelowThePartOf1();
        readTakesTheNextByteBelow2ToThe24();
        readHas0sBehindTheEnd();
        readHas0sBehindTheEndOfAShorterRow();
        readsAsManySignsAsThereAre();
        DUE.end();
    }

    private static void bytes(TreeOdds x, String row, int... want) {
        DUE.is(row + ": bytes", x.written(NONE), want.length);
        for (int k = 0; k < want.length; k++) DUE.is(row + ": byte " + k, x.written(k), want[k]);
        DUE.is(row + ": behind them", x.written(want.length), -5);
        DUE.is(row + ": read again", x.reads(NONE, 0), x.count(4));
    }

    private static void bytes(int depth, int guesser, String row, int... want) {
        bytes(Due.of(depth, guesser, row), row, want);
    }

    /** "LOW 0, RANGE 2 to the 32". */
    private static void lowIs0AndRange2ToThe32AtFirst() {
        bytes(3, 0, "", 0, 0, 0, 0);
        // RANGE by 65536 times 32768 is 2 to the 31, where it had been 2 to the 32 less 1 it would be less.
        bytes(3, 0, "0", 128, 0, 0, 0);
        bytes(0, 0, "00", 128 + 128 / 4, 0, 0, 0);
    }

    /** "the part of 1 is ... at the lower end; 1: RANGE is that part; 0: LOW is more by it, RANGE less by it". */
    private static void partOf1IsAtTheLowerEnd() {
        bytes(0, 0, "1", 0, 0, 0, 0);
        bytes(0, 0, "10", 96, 0, 0, 0);
        bytes(0, 0, "11", 0, 0, 0, 0);
        bytes(0, 0, "01", 128, 0, 0, 0);
        bytes(0, 0, "010", 144, 0, 0, 0);
    }

    /** "RANGE by 65536 (cut) times THE GUESS". */
    private static void rangeBy65536IsCut() {
        // RANGE is 1789591552 behind 00, 27307 times 6553 less behind 000: 1610648781, by 65536 24576 and some.
        TreeOdds x = Due.of(0, 2, "0000");
        long low = (1L << 31) + 32768L * 10922 + 27307L * 6553 + 24576L * 4681;
        DUE.is("THE GUESS ahead of the last", x.was(3, 0), 4681);
        DUE.yes("what is cut would be seen", 1610648781L * 4681 / 65536 != 24576L * 4681);
        bytes(x, "0000", (int) (low >> 24), (int) (low >> 16) & 255, (int) (low >> 8) & 255, (int) low & 255);
    }

    /** RANGE when the last SIGN has come and no byte has gone out by it, reckoned from what was guessed. */
    private static long rangeOf(TreeOdds x) {
        long range = 1L << 32;
        int signs = x.count(4);
        for (int k = 0; k < signs; k++) {
            while (range < 1 << 24) range *= 256;
            long part = range / 65536 * x.was(k, 0);
            range = x.at(k) == 1 ? part : range - part;
        }
        return range;
    }

    /** "as long as RANGE is below 2 to the 24, 8 bits go out". */
    private static void bytesGoOutBelow2ToThe24() {
        TreeOdds at = Due.of(0, 3, "001110");
        DUE.is("001110: RANGE", rangeOf(at), 1 << 24);
        bytes(at, "001110", 193, 0, 0, 0);
        String row = "1111111010110100111011111110110011";
        TreeOdds below = Due.of(4, 0, row);
        DUE.is(row + ": RANGE", rangeOf(below), (1 << 24) - 1);
        bytes(below, row, 36, 29, 42, 9, 222, 11, 144, 0);
        below.drop();
        bytes(below, row.substring(0, 33), 36, 29, 42, 9, 222, 11, 144);
        // The least likely SIGN of all makes RANGE no less than 2 to the 16, so that one byte is enough each time.
        TreeOdds least = Due.of(0, 2, "0".repeat(60) + "1");
        DUE.yes("RANGE by the least guess", rangeOf(least) >= 1 << 16);
    }

    /** "a byte, and a carry of 1 goes into those that went out ahead". */
    private static void carryGoesIntoTheByteAhead() {
        bytes(2, 2, "101100010100", 92, 35, 33, 193, 102);
        bytes(2, 2, "1011000101001", 92, 35, 33, 193, 102, 0);
        TreeOdds x = Due.of(1, 2, "011000");
        bytes(x, "011000", 137, 208, 255, 146, 0);
        x.sign(0);
        bytes(x, "0110000", 138, 23, 70, 12, 128);
        x.drop();
        bytes(x, "011000 again", 137, 208, 255, 146, 0);
    }

    /** A byte of 255 becomes 0, and the carry goes on into the one ahead of it. */
    private static void carryGoesOnThrough255s() {
        bytes(1, 3, "00000110011001", 226, 255, 190, 106, 233, 0);
        bytes(1, 3, "000001100110010", 227, 0, 41, 196, 88, 242);
        bytes(2, 2, "111011110101000011010", 65, 0, 87, 216, 244, 196, 0);
        bytes(5, 3, "111011010000001011110101011001", 33, 0, 0, 117, 100, 212, 50, 0);
        int before = 0;
        for (int n = 1; n <= 30; n++) {
            TreeOdds x = Due.of(5, 3, "111011010000001011110101011001".substring(0, n));
            if (x.written(0) == 32 && x.written(1) == 255 && x.written(2) == 255) before = n;
        }
        DUE.yes("two bytes had been 255 ahead of it", before > 0);
    }

    /** "At the end 4 bytes go out so": LOW may be 2 to the 32 and more then. */
    private static void carryGoesOutWithTheLastBytes() {
        // Of 0110000 one byte has gone out, 137: the carry that makes it 138 comes by the 4 bytes at the end.
        DUE.is("0110000: byte 0", Due.of(1, 2, "0110000").written(0), 138);
        DUE.is("000001100110010: byte 0", Due.of(1, 3, "000001100110010").written(0), 227);
        DUE.is("000001100110010: byte 1", Due.of(1, 3, "000001100110010").written(1), 0);
    }

    private static void fourBytesGoOutAtTheEnd() {
        bytes(6, 0, "1".repeat(99), 0, 0, 0, 0);
        bytes(6, 0, "1".repeat(99) + "0", 7, 153, 194, 224, 0);
        for (int signs : new int[] {1, 50, 99, 100}) {
            TreeOdds x = new TreeOdds();
            Plain y = new Plain();
            x.draw(77, signs, 50);
            y.row = Due.row(x);
            bytes(x, "drawn, " + signs, y.bytes());
        }
    }

    /** Promise 18: "How many bytes THE ROW has, written (k = NONE), the k-th; -5: not so many". */
    private static void writtenIsOfNoneOrAByte() {
        TreeOdds x = Due.of(6, 0, "1".repeat(99) + "0");
        DUE.stays("written(NONE)", x, () -> x.written(-1), 5);
        DUE.stays("written(0)", x, () -> x.written(0), 7);
        DUE.stays("written(4)", x, () -> x.written(4), 0);
        for (int k : new int[] {5, 6, 99, 100, 204, 205, MOST}) DUE.stays("written(" + k + ")", x, () -> x.written(k), -5);
    }

    /** Promise 18: "BAD: -10". */
    private static void writtenIsBadBelowNone() {
        TreeOdds x = Due.of(3, 0, "1011");
        for (int k : new int[] {-2, -3, -5, -10, LEAST}) DUE.refused("written(" + k + ")", x, () -> x.written(k), BAD, -10);
        DUE.is("times BAD", x.count(0), 5);
    }

    /** Promise 19: "with byte k changed ... (k NONE: nothing is changed) ... BAD. All stays". */
    private static void readsIsOfNoneOrAByte() {
        TreeOdds x = Due.of(6, 0, "1".repeat(99) + "0");
        for (int k : new int[] {LEAST, -3, -2, 5, 6, 204, MOST}) {
            DUE.refused("reads(" + k + ", 1)", x, () -> x.reads(k, 1), BAD);
        }
        DUE.stays("reads(NONE, 1)", x, () -> x.reads(-1, 1), 100);
        DUE.stays("reads(0, 1)", x, () -> x.reads(0, 1), 99);
        DUE.stays("reads(4, 255)", x, () -> x.reads(4, 255), 100);
        TreeOdds none = new TreeOdds();
        DUE.stays("reads(3, 1) of none", none, () -> none.reads(3, 1), 0);
        DUE.refused("reads(4, 1) of none", none, () -> none.reads(4, 1), BAD);
    }

    /** Promise 19: "changed by x (1 .. 255, bit by bit unlike)". */
    private static void readsIsByAnX1To255() {
        TreeOdds x = Due.of(3, 0, "0");
        for (int by : new int[] {LEAST, -1, 0, 256, 257, MOST}) DUE.refused("reads(0, " + by + ")", x, () -> x.reads(0, by), BAD);
        // The byte is 128: what is below 128 makes it 128 and more, what is above makes it less.
        for (int by : new int[] {1, 2, 127}) DUE.stays("reads(0, " + by + ")", x, () -> x.reads(0, by), 1);
        for (int by : new int[] {128, 129, 254, 255}) DUE.stays("reads(0, " + by + ")", x, () -> x.reads(0, by), 0);
    }

    /** Promise 19: "k NONE: nothing is changed, x counts not". */
    private static void readsByNoneDoesNotLookAtX() {
        TreeOdds x = Due.of(3, 0, "0110");
        for (int by : new int[] {LEAST, -1, 0, 1, 255, 256, MOST}) {
            DUE.stays("reads(NONE, " + by + ")", x, () -> x.reads(NONE, by), 4);
        }
        DUE.is("times BAD", x.count(0), 0);
    }

    /** "1, if CODE is below the part of 1 ...; else 0". */
    private static void readIs1BelowThePartOf1() {
        TreeOdds one = Due.of(3, 0, "1");
        DUE.is("CODE 127 times 2 to the 24", one.reads(0, 127), 1);
        DUE.is("CODE 128 times 2 to the 24, the part itself", one.reads(0, 128), 0);
        // CODE is LOW of 000 and so the part of 1 itself at the third SIGN; changed by 1 it is one less.
        TreeOdds x = Due.of(2, 2, "000");
        bytes(x, "000", 159, 255, 115, 51);
        DUE.is("CODE is the part of 1", x.reads(NONE, 0), 3);
        DUE.is("CODE is one less", x.reads(3, 1), 2);
        DUE.is("CODE is four more", x.reads(3, 4), 3);
    }

    /** "as long as RANGE is below 2 to the 24: CODE is 256 times itself and the next byte, RANGE 256 times". */
    private static void readTakesTheNextByteBelow2ToThe24() {
        String row = "1111111010110100111011111110110011";
        for (String more : new String[] {"", "0", "1", "01", "10110"}) {
            TreeOdds x = Due.of(4, 0, row + more);
            DUE.is(row + more + ": read again", x.reads(NONE, 0), 34 + more.length());
        }
        for (String more : new String[] {"", "0", "1", "0100"}) {
            TreeOdds x = Due.of(0, 3, "001110" + more);
            DUE.is("001110" + more + ": read again", x.reads(NONE, 0), 6 + more.length());
        }
    }

    /** Rows that are written in few bytes; changed, they are read as dearer ones, for which the bytes don't last. */
    private static final Object[][] CHEAP = {
        {6, 1, "0000010000000000000000000000", 29, 17}, {0, 0, "1".repeat(27), 178, 9}, {3, 2, "0".repeat(30), 69, 15},
        {2, 2, "0".repeat(37), 85, 15}, {4, 2, "1".repeat(44), 76, 23}, {5, 2, "0".repeat(52), 85, 25}};

    /** Promise 19: "(0s behind the end)". */
    private static void readHas0sBehindTheEnd() {
        for (Object[] r : CHEAP) {
            TreeOdds x = Due.of((Integer) r[0], (Integer) r[1], (String) r[2]);
            int by = (Integer) r[3];
            DUE.stays(r[2] + ": reads(0, " + by + ")", x, () -> x.reads(0, by), (Integer) r[4]);
        }
    }

    /** What a longer row was written in counts no more. */
    private static void readHas0sBehindTheEndOfAShorterRow() {
        for (Object[] r : CHEAP) {
            for (int seed = 1; seed <= 20; seed++) {
                TreeOdds x = new TreeOdds();
                x.draw(seed, 100, 50);
                x.written(TreeOdds.NONE);
                x.empties();
                x.sets(0, (Integer) r[0]);
                x.sets(1, (Integer) r[1]);
                Due.put(x, (String) r[2]);
                DUE.is(r[2] + " behind 100 drawn by " + seed, x.reads(0, (Integer) r[3]), (Integer) r[4]);
            }
        }
    }

    /** Promise 19: "as many SIGNS as THE ROW has ...: how many SIGNS are as in THE ROW". */
    private static void readsAsManySignsAsThereAre() {
        for (int signs : new int[] {0, 1, 2, 99, 100}) {
            TreeOdds x = new TreeOdds();
            if (signs > 0) x.draw(123, signs, 35);
            DUE.stays("all of " + signs, x, () -> x.reads(NONE, 0), signs);
            for (int k = 0; k < 4; k++) {
                int alike = x.reads(k, 255);
                DUE.yes("of " + signs + " as many at most", alike >= 0 && alike <= signs);
            }
        }
    }
}
