/** Promises 20 to 22: texts. */
public final class TextTest {
    private static final Due DUE = new Due("TextTest");

    public static void main(String[] args) {
        type();
        clear();
        rows();
        faults();
        tooMany();
        untouched();
        allShortTexts();
        DUE.end();
    }

    private static void type() {
        TreeOdds x = new TreeOdds();
        DUE.is("type(0)", x.type(0), 1);
        DUE.is("type(127)", x.type(127), 2);
        DUE.is("type(-1)", x.type(-1), TreeOdds.BAD);
        DUE.is("type(128)", x.type(128), TreeOdds.BAD);
        DUE.is("bytes", x.count(3), 2);
        for (int i = 3; i <= 120; i++) DUE.is("type(48)", x.type(48), i);
        DUE.is("the 121st", x.type(48), TreeOdds.FULL);
        DUE.is("BAD ahead of FULL", x.type(128), TreeOdds.BAD);
        DUE.is("times BAD", x.count(0), 3);
        DUE.is("times FULL", x.count(2), 1);
        DUE.is("bytes", x.count(3), 120);
        DUE.is("no STATE", x.count(7), 0);
    }

    private static void clear() {
        TreeOdds x = new TreeOdds();
        DUE.is("none", x.clear(), 0);
        Due.type(x, "01x2");
        DUE.is("told()", x.told(), 3);
        DUE.is("the TEXT stays", x.count(3), 4);
        DUE.is("told() again", x.told(), 3);
        DUE.is("clear()", x.clear(), 4);
        DUE.is("bytes", x.count(3), 0);
        DUE.is("no TEXT, no SIGNS", x.told(), 0);
        DUE.row("all", x, "011011");
        DUE.is("a STATE each", x.count(7), 3);
    }

    private static void tells(String text, String want) {
        TreeOdds x = new TreeOdds();
        Due.type(x, text);
        DUE.is("told() of '" + text + "'", x.told(), want.length());
        DUE.row("'" + text + "'", x, want);
        DUE.is("'" + text + "': a STATE", x.count(7), 1);
    }

    private static void rows() {
        tells("", "");
        tells("   ", "");
        tells(" ".repeat(120), "");
        tells(" ".repeat(119) + "1", "1");
        tells("10".repeat(50) + " ".repeat(20), "10".repeat(50));
        tells("(1)x1".repeat(24), "1".repeat(24));
        tells("0", "0");
        tells("1", "1");
        tells("0110", "0110");
        tells("0x1", "0");
        tells("0x3 1", "0001");
        tells("1x12", "1".repeat(12));
        tells("1x99", "1".repeat(99));
        tells("1x05", "11111");
        tells("1x2 0", "110");
        tells("1x20", "1".repeat(20));
        tells("1 x 2", "11");
        tells("  1  x  2  ", "11");
        tells("(01)x3", "010101");
        tells("(0x2 1)x2", "001001");
        tells("( 0 1 x 2 ) x 2 1", "0110111");
        tells("(1)x1(0)x2", "100");
        tells("1(01)x2 0x2(1)x3", "10101" + "00" + "111");
        tells("(1)x99 0", "1".repeat(99) + "0");
        tells("(01)x50", "01".repeat(50));
        tells("(1x50)x2", "1".repeat(100));
    }

    private static void fault(String text, int place) {
        fault(0, text, place);
    }

    private static void fault(int there, String text, int place) {
        TreeOdds x = new TreeOdds();
        if (there > 0) x.draw(there, there, 50);
        Due.type(x, text);
        long before = x.digest();
        DUE.is("told() of '" + text + "' behind " + there, x.told(), -10 - place);
        DUE.is("'" + text + "': nothing is done", x.digest() == before ? 1 : 0, 1);
    }

    private static void faults() {
        fault("2", 0);
        fault("x", 0);
        fault("x3", 0);
        fault(")", 0);
        fault(";", 0);
        fault("01;", 2);
        fault("0,1", 1);
        fault("01 a", 3);
        fault("0X2", 1);
        fault("0\t1", 1);
        fault("0" + (char) 0, 1);
        fault("0)x2", 1);
        fault("0(", 2);
        fault("(", 1);
        fault("(  ", 3);
        fault("()", 1);
        fault("( )x2", 2);
        fault("((0)x2)x2", 1);
        fault("(0(1)x2)x2", 2);
        fault("(0", 2);
        fault("(0x", 3);
        fault("(0x2", 4);
        fault("(0x2 ", 5);
        fault("(0)", 3);
        fault("(0)  ", 5);
        fault("(0)1", 3);
        fault("(0) (1)x2", 4);
        fault("(0))", 3);
        fault("(0)x", 4);
        fault("(0)x ", 5);
        fault("(0)x0", 4);
        fault("(0)x123", 4);
        fault("(0)x2x2", 5);
        fault("(0)x2)", 5);
        fault("(0)x 0", 5);
        fault("(0)x(", 4);
        fault("0x", 2);
        fault("0x  ", 4);
        fault("0x0", 2);
        fault("0x00", 2);
        fault("0x100", 2);
        fault("0x099", 2);
        fault("0x 100 1", 3);
        fault("0x" + "9".repeat(118), 2);
        fault("0xx2", 2);
        fault("0x2x2", 3);
        fault("0x2 2", 4);
        fault("0x-1", 2);
        fault("0x(1)x2", 2);
        fault("0x)", 2);
        fault("0x2 3 z", 4);
        fault("z 0x", 0);
    }

    private static void tooMany() {
        fault("0x99 1x2", 5);
        fault("0x99 11", 6);
        fault("0x99 1 1 z", 7);
        fault("0x99 z 1 1", 5);
        fault("(01)x51", 3);
        fault(" (01) x 99", 4);
        fault("(0x60 1x60)x1", 6);
        fault("(0x60 1x60", 6);
        fault("0x50 (1x25)x3", 10);
        fault("0x50 (1x50 0)x1", 11);
        fault(100, "0", 0);
        fault(100, " (1)x1", 2);
        fault(60, "0x40 1", 5);
        fault(99, "1(0)x1", 2);
        tooManyWhateverTheNumber();
        tooManyOnlyByTheNumber();
        TreeOdds x = new TreeOdds();
        x.draw(3, 60, 50);
        Due.type(x, "(01)x20");
        DUE.is("to 100", x.told(), 40);
        Due.type(x, "  ");
        DUE.is("none behind 100", x.told(), 0);
    }

    /** A sign comes once at least: where one is too many, what stands behind it is not looked at. */
    private static void tooManyWhateverTheNumber() {
        fault(100, "1x" + (char) 0, 0);
        fault(100, "0x", 0);
        fault(100, "0x0", 0);
        fault(100, "0x100", 0);
        fault(100, " 0 x z", 1);
        fault(100, "0z", 0);
        fault(100, "(1x", 1);
        fault(100, "(1xz)x1", 1);
        fault(100, "(", 1);
        fault(100, "()", 1);
        fault(100, "z0", 0);
        fault(99, "01x0", 1);
        fault(99, "(0 1x)x1", 3);
        fault(0, "0x99 1 0x", 7);
        fault(0, "(0x50)x2 1x0", 9);
        fault(0, "(0x99 1 0x", 8);
    }

    /** Where one still has room, a number that is not as told is the fault itself. */
    private static void tooManyOnlyByTheNumber() {
        fault(99, "0x", 2);
        fault(99, "0x0", 2);
        fault(99, "0x100", 2);
        fault(99, "0x2", 0);
        fault(99, "0x2z", 0);
        fault(99, "0x1z", 3);
        fault(99, "(0x2)x0", 1);
        fault(99, "(0x", 3);
        fault(99, "(0)x100", 4);
        fault(99, "(0)x0", 4);
        fault(99, "(0)x", 4);
        fault(99, "(0)", 3);
        fault(99, "(0)0", 3);
        fault(99, "(0)x2", 2);
        fault(98, "(01)x2z", 3);
    }

    private static void untouched() {
        TreeOdds x = Due.of("0110");
        Due.type(x, "01x");
        int states = x.count(7);
        for (int i = 0; i < 3; i++) DUE.is("told()", x.told(), -13);
        for (int what = 0; what < 3; what++) DUE.is("no refusal " + what, x.count(what), 0);
        DUE.is("no STATE", x.count(7), states);
        DUE.row("no SIGNS", x, "0110");
        DUE.is("the TEXT stays", x.count(3), 3);
        x.type('2');
        DUE.is("mended", x.told(), 3);
        DUE.row("behind those there were", x, "0110011");
        TreeOdds y = Due.of("0110011");
        DUE.is("they come as others do", x.guess(), y.guess());
        DUE.is("they cost as others do", x.cost(), y.cost());
    }

    /** Each text of up to 6 of these bytes, on its own, and shorter ones where there is room for 3, 1 or none. */
    private static void allShortTexts() {
        char[] bytes = {'0', '1', '2', 'x', '(', ')', ' '};
        for (int n = 1; n <= 6; n++) {
            int all = 1;
            for (int i = 0; i < n; i++) all *= bytes.length;
            for (int number = 0; number < all; number++) {
                StringBuilder text = new StringBuilder();
                for (int i = 0, left = number; i < n; i++, left /= bytes.length) text.append(bytes[left % bytes.length]);
                shortText(0, text.toString());
                if (n <= 5) shortText(97, text.toString());
                if (n <= 4) shortText(99, text.toString());
                if (n <= 4) shortText(100, text.toString());
            }
        }
    }

    private static void shortText(int there, String text) {
        String row = "01".repeat(50).substring(0, there);
        TreeOdds x = Due.of(row);
        Plain y = new Plain();
        y.row = row;
        y.text = text;
        int[] fault = new int[1];
        String signs = y.signsOfText(fault);
        Due.type(x, text);
        DUE.is("told() of '" + text + "' behind " + there, x.told(), fault[0] < 0 ? signs.length() : -10 - fault[0]);
        DUE.row("'" + text + "' behind " + there, x, row + signs);
    }
}
