import java.util.function.IntUnaryOperator;

/** The edges that the document names for texts: THE TEXT, FAULT and promises 20 to 22, a sentence each. */
public final class TextEdgesTest {
    private static final Due DUE = new Due("TextEdgesTest");
    private static final int BAD = TreeOdds.BAD, FULL = TreeOdds.FULL;
    private static final int LEAST = Integer.MIN_VALUE, MOST = Integer.MAX_VALUE;
    private static final int OTHER = MOST;

    public static void main(String[] args) {
        typeIsOfBytes0To127();
        typeIsFullAt120();
        typeIsBadAheadOfFull();
        clearTellsHowManyItHad();
        aTextOf120BytesIsReadToItsEnd();
        eachByteAtEachPlace();
        numbersAre1To99();
        numbersHave1Or2Figures();
        groupsHaveOneOrMore();
        groupsNeedANumber();
        groupsAreNotWithinGroups();
        blanksStandAnywhereButInNumbers();
        noSemicolonEndsIt();
        theFirstFaultIsTold();
        hundredSignsByASign();
        hundredSignsByASignsNumber();
        hundredSignsByAGroup();
        hundredSignsWithinAGroup();
        endsTooEarlyAtItsLength();
        noTextNoSigns();
        byAFaultNothingIsDone();
        eachReadingBeginsAnew();
        aShorterTextEndsAtItsOwnEnd();
        DUE.end();
    }

    private static TreeOdds having(int signs) {
        TreeOdds x = new TreeOdds();
        if (signs > 0) x.draw(99, signs, 50);
        return x;
    }

    /** The text's answer behind so many SIGNS; by a FAULT all stays. */
    private static void told(int there, String text, int want) {
        TreeOdds x = having(there);
        Due.type(x, text);
        String call = "told() of '" + text + "' behind " + there;
        if (want < 0) {
            DUE.stays(call, x, x::told, want);
            return;
        }
        DUE.is(call, x.told(), want);
        DUE.is(call + ": SIGNS", x.count(4), there + want);
    }

    private static void fault(String text, int place) {
        told(0, text, -10 - place);
    }

    private static void fault(int there, String text, int place) {
        told(there, text, -10 - place);
    }

    private static void row(String text, String want) {
        TreeOdds x = new TreeOdds();
        Due.type(x, text);
        DUE.is("told() of '" + text + "'", x.told(), want.length());
        DUE.row("'" + text + "'", x, want);
    }

    /** Promise 20: "A byte (0 .. 127) comes behind THE TEXT: how many it has. BAD". */
    private static void typeIsOfBytes0To127() {
        TreeOdds x = having(3);
        for (int c : new int[] {LEAST, -2, -1, 128, 129, 255, 256, 304, MOST}) {
            DUE.refused("type(" + c + ")", x, () -> x.type(c), BAD);
        }
        int had = 0;
        for (int c : new int[] {0, 1, 48, 126, 127}) DUE.is("type(" + c + ")", x.type(c), ++had);
        DUE.is("bytes", x.count(3), 5);
        DUE.is("no STATE by it", x.count(7), 1);
    }

    /** Promise 20: "FULL: 120"; "THE TEXT (120 bytes at most)". */
    private static void typeIsFullAt120() {
        TreeOdds x = new TreeOdds();
        for (int i = 1; i <= 118; i++) x.type(' ');
        DUE.is("the 119th", x.type(' '), 119);
        DUE.is("the 120th", x.type('1'), 120);
        DUE.refused("the 121st", x, () -> x.type('0'), FULL);
        DUE.refused("the 121st again", x, () -> x.type(' '), FULL);
        DUE.is("the TEXT stays", x.told(), 1);
        DUE.is("the 120th stays", x.at(0), 1);
        x.clear();
        DUE.is("the first again", x.type('0'), 1);
    }

    private static void typeIsBadAheadOfFull() {
        TreeOdds x = new TreeOdds();
        for (int i = 0; i < 120; i++) x.type('0');
        DUE.refused("type(128) behind 120", x, () -> x.type(128), BAD);
        DUE.refused("type(-1) behind 120", x, () -> x.type(-1), BAD);
        DUE.refused("type(127) behind 120", x, () -> x.type(127), FULL);
    }

    /** Promise 21: "THE TEXT is empty: how many it had". */
    private static void clearTellsHowManyItHad() {
        for (int bytes : new int[] {0, 1, 119, 120}) {
            TreeOdds x = having(3);
            for (int i = 0; i < bytes; i++) x.type('z');
            DUE.is("clear() of " + bytes, x.clear(), bytes);
            DUE.is("bytes", x.count(3), 0);
            DUE.is("clear() again", x.clear(), 0);
            DUE.is("nothing is left to tell", x.told(), 0);
            DUE.is("SIGNS stay", x.count(4), 3);
        }
        TreeOdds x = having(3);
        x.type('0');
        x.clear();
        DUE.is("no STATE by it", x.count(7), 1);
    }

    private static void aTextOf120BytesIsReadToItsEnd() {
        row(" ".repeat(119) + "1", "1");
        row("01".repeat(50) + " ".repeat(20), "01".repeat(50));
        row(" ".repeat(117) + "1x9", "111111111");
        row(" ".repeat(114) + "(01)x9", "01".repeat(9));
        row("(1)x1".repeat(24), "1".repeat(24));
        fault(" ".repeat(119) + "z", 119);
        fault(" ".repeat(118) + "z", 118);
        fault("0".repeat(101) + " ".repeat(19), 100);
        fault("0" + " ".repeat(118) + "x", 120);
        fault("0x" + " ".repeat(118), 120);
        fault("(0)" + " ".repeat(117), 120);
        fault(" ".repeat(119) + "(", 120);
        fault(" ".repeat(118) + "(", 119);
        fault("0x" + "1".repeat(118), 2);
    }

    /** One byte more behind a text: by some it only ends too early, by some it answers so, the others are the FAULT. */
    private static void next(String text, String early, IntUnaryOperator answer) {
        for (int c = 0; c < 128; c++) {
            int want = answer.applyAsInt(c);
            if (want == OTHER) want = -10 - text.length() - (early.indexOf(c) >= 0 ? 1 : 0);
            told(0, text + (char) c, want);
        }
    }

    /** Where a piece may begin: so many SIGNS by a blank, one more by a sign. */
    private static IntUnaryOperator piece(int signs) {
        return c -> c == ' ' ? signs : c == '0' || c == '1' ? signs + 1 : OTHER;
    }

    /** Where a number begins: it is the FAULT, if it is 0. */
    private static IntUnaryOperator number(int first) {
        return c -> c == '0' ? -10 - first : figure(c) ? c - '0' : OTHER;
    }

    /** Behind one figure: so many by a blank, ten times as many and more by a second figure. */
    private static IntUnaryOperator secondFigure(int signs) {
        return c -> c == ' ' ? signs : figure(c) ? 10 * signs + c - '0' : OTHER;
    }

    /** Behind two figures: a third one makes a number that is not as told. */
    private static IntUnaryOperator thirdFigure(int first, int signs) {
        return c -> c == ' ' ? signs : figure(c) ? -10 - first : OTHER;
    }

    private static boolean figure(int c) {
        return c >= '0' && c <= '9';
    }

    /** "FAULT: the place of the first byte that can not stand there": all 128 bytes at each kind of place. */
    private static void eachByteAtEachPlace() {
        next("", "(", piece(0));
        next("0", "x(", piece(1));
        next("0 ", "x(", piece(1));
        next("0x", " ", number(2));
        next("0x ", " ", number(3));
        next("0x1", "(", secondFigure(1));
        next("0x0", "", c -> c != '0' && figure(c) ? c - '0' : -12);
        next("0x12", "(", thirdFigure(2, 12));
        next("0x1 ", "(", piece(1));
        next("(", "01 ", c -> OTHER);
        next("(0", "01x) ", c -> OTHER);
        next("(0x", "123456789 ", c -> OTHER);
        next("(0x1", "0123456789) ", c -> OTHER);
        next("(0x12", ") ", c -> figure(c) ? -13 : OTHER);
        next("(0x1 ", "01) ", c -> OTHER);
        next("(0)", "x ", c -> OTHER);
        next("(0)x", " ", number(4));
        next("(0)x2", "(", secondFigure(2));
        next("(0)x12", "(", thirdFigure(4, 12));
        next("(0)x2 ", "(", piece(2));
    }

    /** "x and 1 or 2 figures (1 .. 99) behind: so many of it". */
    private static void numbersAre1To99() {
        for (int n = 1; n <= 99; n++) {
            row("1x" + n, "1".repeat(n));
            row("(1)x" + n, "1".repeat(n));
        }
        fault("1x0", 2);
        fault("1x100", 2);
        fault("(1)x0", 4);
        fault("(1)x100", 4);
    }

    private static void numbersHave1Or2Figures() {
        for (int n = 0; n <= 9; n++) {
            if (n == 0) fault("1x00", 2);
            else row("1x0" + n, "1".repeat(n));
            fault("1x00" + n, 2);
            fault("1x10" + n, 2);
            fault("(1)x00" + n, 4);
        }
        fault("1x010", 2);
        fault("1x099", 2);
        fault("1x999", 2);
        fault("1x1000", 2);
        fault("1x4294967297", 2);
        fault("1x18446744073709551617", 2);
        fault("1x  123", 4);
    }

    /** "( and ) around one or more of these". */
    private static void groupsHaveOneOrMore() {
        fault("()x2", 1);
        fault("( )x2", 2);
        fault("0()x2", 2);
        fault("(0)x2()x2", 6);
        row("(0)x2", "00");
        row("(01)x2", "0101");
        row("(0x2)x2", "0000");
        row("(0x2 1x3 0)x2", "001110001110");
    }

    /** "x and a number behind: all of that so often". */
    private static void groupsNeedANumber() {
        fault("(0)", 3);
        fault("(0)1", 3);
        fault("(0) 1", 4);
        fault("(0)(1)x2", 3);
        fault("(0))", 3);
        fault("(0)2", 3);
        fault("(0)x", 4);
        fault("(0)xx2", 4);
        row("(0)x1", "0");
        row("(01)x1 1", "011");
        row("1(0)x2 1", "1001");
    }

    /** "( within ( not". */
    private static void groupsAreNotWithinGroups() {
        fault("((0)x2)x2", 1);
        fault("(0(1)x2)x2", 2);
        fault("(0x2(1)x2)x2", 4);
        fault("( (", 2);
        row("(0)x2(1)x2", "0011");
        row("(0)x2 (1)x2(0)x1", "00110");
        fault("(0)x2)", 5);
        fault(")", 0);
        fault("0)x2", 1);
    }

    /** "Blanks (32) may stand anywhere but in numbers". */
    private static void blanksStandAnywhereButInNumbers() {
        row(" 0", "0");
        row("0 ", "0");
        row("0 x2", "00");
        row("0x 2", "00");
        row("0  x  2  ", "00");
        row("( 0)x2", "00");
        row("(0 )x2", "00");
        row("(0) x2", "00");
        row("(0)x 2", "00");
        row("  (  0  x  2  1  )  x  2  ", "001001");
        row("0x1 1", "01");
        row("0x1 0", "00");
        row("0x10", "0".repeat(10));
        fault("0x1 2", 4);
        fault("0x1 2 3", 4);
        fault("(0)x1 2", 6);
        for (char c : new char[] {9, 10, 11, 12, 13, 31, 33}) fault("0" + c + "1", 1);
    }

    /** "no ; ends it". */
    private static void noSemicolonEndsIt() {
        fault(";", 0);
        fault("0;", 1);
        fault("01x2;", 4);
        fault("(0)x2;", 5);
        fault("(0);", 3);
        fault("0 ;", 2);
    }

    private static void theFirstFaultIsTold() {
        fault("z;", 0);
        fault("0z)", 1);
        fault("0x0z", 2);
        fault("z0x0", 0);
        fault("0x100(", 2);
        fault("(0z", 2);
        fault("(0)z", 3);
    }

    /** "where SIGNS would be more than 100 with those there are: the place of the sign ... that makes them so". */
    private static void hundredSignsByASign() {
        told(98, "0", 1);
        told(99, "0", 1);
        fault(100, "0", 0);
        fault(100, " 1", 1);
        told(98, "01", 2);
        fault(99, "01", 1);
        fault(98, "01 0", 3);
        told(0, "0".repeat(99), 99);
        told(0, "0".repeat(100), 100);
        fault(0, "0".repeat(101), 100);
        fault(0, "0".repeat(120), 100);
        told(1, "0".repeat(99), 99);
        fault(1, "0".repeat(100), 99);
        // A sign comes once at least, whatever its number is.
        fault(100, "0x", 0);
        fault(100, "0x0", 0);
        fault(100, "0xz", 0);
        fault(99, "01x0", 1);
    }

    private static void hundredSignsByASignsNumber() {
        told(1, "0x98", 98);
        told(1, "0x99", 99);
        fault(2, "0x99", 0);
        told(2, "0x98", 98);
        told(0, "0x99 1", 100);
        fault(0, "0x99 1x2", 5);
        fault(0, "0x99 11", 6);
        told(99, "0x1", 1);
        fault(99, "0x2", 0);
        fault(99, "0x99", 0);
        fault(99, " 1x2 z", 1);
        fault(99, "0x0", 2);
        fault(99, "0x100", 2);
        fault(99, "0x", 2);
    }

    /** "the place of the ... ) that makes them so". */
    private static void hundredSignsByAGroup() {
        told(0, "(01)x49", 98);
        told(0, "(01)x50", 100);
        fault(0, "(01)x51", 3);
        fault(1, "(01)x50", 3);
        told(1, "(01)x49", 98);
        told(1, "(1)x99", 99);
        fault(2, "(1)x99", 2);
        told(0, "(0x99)x1", 99);
        fault(0, "(0x99)x2", 5);
        fault(0, "( 0x50 1 ) x 2", 9);
        told(0, "(0x50)x2", 100);
        fault(0, "(0x99)x99", 5);
        fault(99, "(0)x2", 2);
        told(99, "(0)x1", 1);
        fault(99, "(0)x2 z", 2);
        fault(99, "(0)x0", 4);
        fault(99, "(0)x100", 4);
        fault(0, "(01)x50 (", 9);
        fault(0, "(01)x50 (1)x1", 9);
    }

    /** The SIGNS within ( come once at least, so that one of them may be the one too many. */
    private static void hundredSignsWithinAGroup() {
        told(98, "(01)x1", 2);
        fault(99, "(01)x1", 2);
        fault(100, "(01)x1", 1);
        fault(0, "(0x99 11)x1", 7);
        told(0, "(0x99 1)x1", 100);
        fault(0, "(0x50 1x51)x1", 6);
        told(0, "(0x50 1x50)x1", 100);
        fault(0, "0x50 (1x25 0x25 1", 16);
        fault(100, "(0x", 1);
        fault(100, "(", 1);
        fault(100, "()", 1);
    }

    /** "the TEXT's length, if it ends within (, behind ) or behind x". */
    private static void endsTooEarlyAtItsLength() {
        fault("(", 1);
        fault("( ", 2);
        fault("(0", 2);
        fault("(0 ", 3);
        fault("(0x", 3);
        fault("(0x ", 4);
        fault("(0x2", 4);
        fault("(0x2 ", 5);
        fault("(0)", 3);
        fault("(0) ", 4);
        fault("(0)x", 4);
        fault("(0)x ", 5);
        fault("0x", 2);
        fault("0x ", 3);
        fault("01 1x", 5);
        fault("0x2(", 4);
        fault("(0)x2(1", 7);
        row("(0)x2", "00");
    }

    /** "(No TEXT: no SIGNS.)". */
    private static void noTextNoSigns() {
        told(0, "", 0);
        told(50, "", 0);
        told(100, "", 0);
        told(0, " ", 0);
        told(100, " ".repeat(120), 0);
        TreeOdds x = having(4);
        long guess = x.guess();
        DUE.is("told()", x.told(), 0);
        DUE.is("guess stays", x.guess(), guess);
        DUE.is("it is told S", x.count(7), 2);
    }

    /** "If there is one, nothing is done"; "By a FAULT nothing counts". */
    private static void byAFaultNothingIsDone() {
        for (String text : new String[] {"01z", "01x0", "0x99 1x9", "(01)x99", "(01", "(01)", "01x"}) {
            TreeOdds x = having(40), y = having(40);
            Due.type(x, text);
            Due.type(y, text);
            for (int i = 0; i < 3; i++) DUE.yes("a FAULT of '" + text + "'", x.told() <= -10);
            DUE.is("'" + text + "': the digest stays", x.digest(), y.digest());
            for (int what = 0; what < 3; what++) DUE.is("'" + text + "': nothing counts", x.count(what), 0);
            DUE.is("'" + text + "': the STATE is the one ahead of all", x.back(), 0);
            DUE.is("'" + text + "': SIGNS of it", x.count(4), 0);
            DUE.is("'" + text + "': the TEXT stays", x.clear(), text.length());
        }
        TreeOdds full = having(100);
        full.type('0');
        for (int i = 0; i < 3; i++) DUE.stays("a FAULT of 101 SIGNS", full, full::told, -10);
        DUE.is("it is not FULL", full.count(2), 0);
    }

    /** Promise 22: the TEXT stays, so that it can be told again, and mended where there is a FAULT. */
    private static void eachReadingBeginsAnew() {
        TreeOdds x = new TreeOdds();
        Due.type(x, "1(0");
        DUE.is("it ends within (", x.told(), -13);
        for (char c : ")x2".toCharArray()) x.type(c);
        for (int i = 1; i <= 3; i++) {
            DUE.is("told() mended", x.told(), 3);
            DUE.is("SIGNS", x.count(4), 3 * i);
        }
        x.type('z');
        DUE.is("spoilt", x.told(), -16);
        Due.type(x, "01");
        DUE.is("another TEXT", x.told(), 2);
        DUE.row("all", x, "100".repeat(3) + "01");
        Due.type(x, "0x89");
        DUE.is("to 100", x.told(), 89);
        DUE.is("again", x.told(), -10);
        x.back();
        DUE.is("again, when there is room", x.told(), 89);
    }

    /** Bytes of a TEXT that was cleared don't come back. */
    private static void aShorterTextEndsAtItsOwnEnd() {
        String[][] longer = {{"0x25", "0x2"}, {"0x2", "0x"}, {"0x2", "0"}, {"01", "0"}, {"(0)x2", "(0)x"}, {"(0)x2", "(0)"}, {"(0)x2", ""}, {"0   1", "0 "}};
        int[] want = {2, -12, 1, 1, -14, -13, 0, 1};
        for (int i = 0; i < want.length; i++) {
            TreeOdds x = new TreeOdds();
            Due.type(x, longer[i][0]);
            Due.type(x, longer[i][1]);
            DUE.is("'" + longer[i][1] + "' behind '" + longer[i][0] + "'", x.told(), want[i]);
        }
    }
}
