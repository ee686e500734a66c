/** Promises 1 to 8: a new object and the row. */
public final class RowTest {
    private static final Due DUE = new Due("RowTest");

    public static void main(String[] args) {
        newObject();
        sign();
        signs();
        draw();
        sets();
        empties();
        drop();
        at();
        DUE.end();
    }

    private static void newObject() {
        TreeOdds x = new TreeOdds();
        int[] counts = {0, 0, 0, 0, 0, 3, 0, 0};
        for (int what = 0; what < 8; what++) DUE.is("new: count(" + what + ")", x.count(what), counts[what]);
        DUE.is("new: guess()", x.guess(), 32768);
        DUE.is("new: cost()", x.cost(), 0);
        for (int l = 0; l <= 3; l++) {
            for (int p = 0; p < 1 << l; p++) {
                DUE.is("new: 0s", x.node(l, p, 0), 0);
                DUE.is("new: 1s", x.node(l, p, 1), 0);
                DUE.is("new: OWN", x.node(l, p, 2), 32768);
                DUE.is("new: WEIGHT", x.node(l, p, 3), l == 3 ? 65536 : 32768);
            }
        }
        DUE.is("new: back()", x.back(), TreeOdds.NO);
        DUE.is("new: clear()", x.clear(), 0);
        TreeOdds other = new TreeOdds();
        x.sign(1);
        DUE.is("another object stays", other.count(4), 0);
        DUE.is("another object's guess stays", other.guess(), 32768);
    }

    private static void sign() {
        TreeOdds x = new TreeOdds();
        DUE.is("sign(1)", x.sign(1), 16);
        DUE.is("sign(0) behind 1", x.sign(0), 24);
        DUE.is("sign(1) behind 10", x.sign(1), 14);
        DUE.row("signs one by one", x, "101");
        DUE.is("STATES", x.count(7), 3);
        long before = x.digest();
        DUE.is("sign(2)", x.sign(2), TreeOdds.BAD);
        DUE.is("sign(-1)", x.sign(-1), TreeOdds.BAD);
        DUE.is("times BAD", x.count(0), 2);
        DUE.row("a refused sign", x, "101");
        DUE.is("no STATE by a refusal", x.count(7), 3);
        x = Due.of("(01)x49 0");
        DUE.is("the 100th", x.sign(1) > 0 ? 1 : 0, 1);
        DUE.is("SIGNS", x.count(4), 100);
        DUE.is("the 101st", x.sign(1), TreeOdds.FULL);
        DUE.is("times FULL", x.count(2), 1);
        DUE.is("BAD ahead of FULL", x.sign(2), TreeOdds.BAD);
        DUE.is("times FULL still", x.count(2), 1);
        DUE.is("SIGNS still", x.count(4), 100);
        DUE.is("a refusal counts in the digest", before == x.digest() ? 1 : 0, 0);
    }

    private static void signs() {
        TreeOdds x = new TreeOdds(), y = new TreeOdds();
        int paid = y.sign(0) + y.sign(1) + y.sign(1) + y.sign(0) + y.sign(1);
        DUE.is("signs(22, 5)", x.signs(22L, 5), paid);
        DUE.row("the lowest first", x, "01101");
        DUE.is("one STATE for all", x.count(7), 1);
        DUE.is("only those behind count", x.signs(3L, 2), y.sign(1) + y.sign(1));
        x = new TreeOdds();
        x.signs(Long.MIN_VALUE, 64);
        DUE.is("64 come", x.count(4), 64);
        DUE.is("bit 63", x.at(63), 1);
        DUE.is("bit 62", x.at(62), 0);
        x.signs(1L << 40 | 1L << 33, 36);
        DUE.is("to 100", x.count(4), 100);
        DUE.is("bit 33", x.at(97), 1);
        DUE.is("bit 32", x.at(96), 0);
        DUE.is("one more", x.signs(0L, 1), TreeOdds.FULL);
        x.drop();
        DUE.is("two more", x.signs(3L, 2), TreeOdds.FULL);
        DUE.is("none of them", x.count(4), 99);
        DUE.is("n 0", x.signs(0L, 0), TreeOdds.BAD);
        DUE.is("n 65 ahead of FULL", x.signs(0L, 65), TreeOdds.BAD);
        DUE.is("n least", x.signs(0L, Integer.MIN_VALUE), TreeOdds.BAD);
        DUE.is("n most", x.signs(0L, Integer.MAX_VALUE), TreeOdds.BAD);
        DUE.is("times BAD", x.count(0), 4);
        DUE.is("times FULL", x.count(2), 2);
    }

    private static void draw() {
        TreeOdds x = new TreeOdds();
        // X: 12345, by 65536 0; then 1406932606, by 65536 21468, left over 68.
        DUE.is("seed 0, p 0", x.draw(0, 1, 0), 0);
        DUE.is("seed 0, p 1", x.draw(0, 1, 1), 1);
        DUE.is("seed 0, p 68", x.draw(0, 2, 68), 1);
        DUE.is("seed 0, p 69", x.draw(0, 2, 69), 2);
        // X: 1103527590, by 65536 16838, left over 38.
        DUE.is("seed 1, p 38", x.draw(1, 1, 38), 0);
        DUE.is("seed 1, p 39", x.draw(1, 1, 39), 1);
        DUE.row("drawn", x, "01101101");
        x = new TreeOdds();
        DUE.is("p 100", x.draw(999999, 60, 100), 60);
        DUE.is("one STATE", x.count(7), 1);
        DUE.is("too many", x.draw(5, 41, 50), TreeOdds.FULL);
        DUE.is("none came", x.count(4), 60);
        DUE.is("to 100", x.draw(5, 40, 0), 0);
        DUE.is("SIGNS", x.count(4), 100);
        x.empties();
        DUE.is("100 at once", x.draw(7, 100, 50), 46);
        int[][] wrong = {{-1, 1, 1}, {1000000, 1, 1}, {0, 0, 1}, {0, 101, 1}, {0, -1, 1}, {0, 1, -1}, {0, 1, 101}};
        for (int[] w : wrong) DUE.is("draw, wrong", x.draw(w[0], w[1], w[2]), TreeOdds.BAD);
        DUE.is("times BAD", x.count(0), wrong.length);
        DUE.is("times FULL", x.count(2), 1);
    }

    private static void sets() {
        TreeOdds x = Due.of("1011 (01)x10"), y = new TreeOdds();
        DUE.is("DEPTH was", x.sets(0, 5), 3);
        DUE.is("GUESSER was", x.sets(1, 2), 0);
        DUE.is("DEPTH was 5", x.sets(0, 6), 5);
        DUE.is("GUESSER was 2", x.sets(1, 3), 2);
        DUE.is("DEPTH", x.count(5), 6);
        DUE.is("GUESSER", x.count(6), 3);
        y.sets(0, 6);
        y.sets(1, 3);
        Due.type(y, "1011 (01)x10");
        y.told();
        y.clear();
        DUE.is("STATES", x.count(7), 5);
        DUE.is("guess as if it had been so", x.guess(), y.guess());
        DUE.is("cost as if it had been so", x.cost(), y.cost());
        for (int k = 0; k < 24; k++) DUE.is("was as if it had been so", x.was(k, 0), y.was(k, 0));
        for (int p = 0; p < 64; p++) DUE.is("1s as if it had been so", x.node(6, p, 1), y.node(6, p, 1));
        DUE.row("the row stays", x, "1011" + "01".repeat(10));
        DUE.is("like as it is", x.sets(0, 6), 6);
        DUE.is("that leaves a STATE too", x.count(7), 6);
        int[][] wrong = {{-1, 0}, {2, 0}, {0, -1}, {0, 7}, {1, -1}, {1, 4}};
        for (int[] w : wrong) DUE.is("sets, wrong", x.sets(w[0], w[1]), TreeOdds.BAD);
        DUE.is("times BAD", x.count(0), wrong.length);
        DUE.is("DEPTH still", x.count(5), 6);
        DUE.is("DEPTH 0", x.sets(0, 0), 6);
        DUE.is("GUESSER 0", x.sets(1, 0), 3);
        DUE.is("GUESSER now", x.count(6), 0);
    }

    private static void empties() {
        TreeOdds x = Due.of("(011)x9");
        x.sets(0, 4);
        DUE.is("empties()", x.empties(), 27);
        DUE.is("SIGNS", x.count(4), 0);
        DUE.is("guess", x.guess(), 32768);
        DUE.is("cost", x.cost(), 0);
        DUE.is("0s", x.node(0, 0, 0), 0);
        DUE.is("WEIGHT", x.node(0, 0, 3), 32768);
        DUE.is("DEPTH stays", x.count(5), 4);
        DUE.is("none", x.empties(), 0);
        DUE.is("a STATE each", x.count(7), 4);
        DUE.is("the past goes too", x.sign(1) + x.node(4, 0, 1), 17);
    }

    private static void drop() {
        TreeOdds x = new TreeOdds();
        DUE.is("none", x.drop(), TreeOdds.NO);
        DUE.is("times NO", x.count(1), 1);
        DUE.is("no STATE", x.count(7), 0);
        x = Due.of("0x60");
        int guess = x.guess(), weight = x.node(0, 0, 3);
        x.sign(0);
        DUE.is("halved", x.node(0, 0, 0), 30);
        DUE.is("drop()", x.drop(), 60);
        DUE.is("as if it had not come: 0s", x.node(0, 0, 0), 60);
        DUE.is("as if it had not come: guess", x.guess(), guess);
        DUE.is("as if it had not come: WEIGHT", x.node(0, 0, 3), weight);
        DUE.is("STATES", x.count(7), 3);
        x = Due.of("1 0");
        DUE.is("one left", x.drop(), 1);
        DUE.row("the last goes", x, "1");
        DUE.is("cost of what is left", x.cost(), 16);
        DUE.is("none left", x.drop(), 0);
        DUE.is("none to drop", x.drop(), TreeOdds.NO);
    }

    private static void at() {
        TreeOdds x = Due.of("011");
        DUE.is("at(0)", x.at(0), 0);
        DUE.is("at(1)", x.at(1), 1);
        DUE.is("at(2)", x.at(2), 1);
        DUE.is("at(3)", x.at(3), TreeOdds.BAD);
        DUE.is("at(-1)", x.at(-1), TreeOdds.BAD);
        DUE.is("at(most)", x.at(Integer.MAX_VALUE), TreeOdds.BAD);
        x.drop();
        DUE.is("at(2) behind drop", x.at(2), TreeOdds.BAD);
        DUE.is("times BAD", x.count(0), 4);
        x = Due.of("0x99 1");
        DUE.is("at(99)", x.at(99), 1);
        DUE.is("at(100)", x.at(100), TreeOdds.BAD);
    }
}
