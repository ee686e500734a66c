/** Promises 23 to 25: states, counts and the digest. */
public final class StatesTest {
    private static final Due DUE = new Due("StatesTest");

    public static void main(String[] args) {
        back();
        whichCallsLeaveOne();
        sixAtMost();
        count();
        digest();
        DUE.end();
    }

    private static void back() {
        TreeOdds x = new TreeOdds();
        DUE.is("none", x.back(), TreeOdds.NO);
        DUE.is("times NO", x.count(1), 1);
        Due.type(x, "01");
        x.sign(1);
        x.sets(0, 5);
        x.sets(1, 3);
        x.empties();
        DUE.is("back to the row", x.back(), 3);
        DUE.row("row", x, "1");
        DUE.is("GUESSER", x.count(6), 3);
        DUE.is("back to GUESSER 0", x.back(), 2);
        DUE.is("GUESSER", x.count(6), 0);
        DUE.is("DEPTH", x.count(5), 5);
        DUE.is("back to DEPTH 3", x.back(), 1);
        DUE.is("DEPTH", x.count(5), 3);
        DUE.is("guess as it was", x.guess(), 40960);
        DUE.is("cost as it was", x.cost(), 16);
        DUE.is("back to none", x.back(), 0);
        DUE.is("SIGNS", x.count(4), 0);
        DUE.is("guess of none", x.guess(), 32768);
        DUE.is("the TEXT stays", x.count(3), 2);
        DUE.is("no more", x.back(), TreeOdds.NO);
        DUE.is("times NO stays", x.count(1), 2);
        DUE.is("a STATE behind back", x.sign(0) + x.count(7), 17);
        x = Due.of("10110");
        x.empties();
        x.signs(9L, 5);
        x.back();
        x.back();
        DUE.row("each SIGN as it was", x, "10110");
        DUE.is("and the guess", x.guess(), Due.of("10110").guess());
    }

    private static void whichCallsLeaveOne() {
        TreeOdds x = new TreeOdds();
        Due.type(x, "0 1");
        int states = 0;
        x.sign(1);
        DUE.is("sign", x.count(7), ++states);
        x.signs(5L, 3);
        DUE.is("signs", x.count(7), ++states);
        x.draw(1, 5, 50);
        DUE.is("draw", x.count(7), ++states);
        x.sets(1, 1);
        DUE.is("sets", x.count(7), ++states);
        x.drop();
        DUE.is("drop", x.count(7), ++states);
        x.told();
        DUE.is("told", x.count(7), ++states);
        x.back();
        x.back();
        states -= 2;
        DUE.is("back", x.count(7), states);
        x.empties();
        DUE.is("empties", x.count(7), ++states);
        x.back();
        states--;
        x.at(0);
        x.guess();
        x.was(0, 0);
        x.node(0, 0, 0);
        x.cost();
        x.costBy(0, 0);
        x.best(0);
        x.follows(3);
        x.tree(0);
        x.leaf(0, 0);
        x.written(0);
        x.reads(0, 1);
        x.type('0');
        x.clear();
        x.count(0);
        x.digest();
        DUE.is("no other call", x.count(7), states);
        x.sign(2);
        x.signs(0L, 0);
        x.draw(-1, 1, 1);
        x.sets(3, 0);
        x.draw(1, 95, 1);
        x.signs(0L, 64);
        x.signs(0L, 64);
        DUE.is("those refused leave none", x.count(7), states + 1);
        DUE.is("times FULL", x.count(2), 2);
    }

    private static void sixAtMost() {
        TreeOdds x = new TreeOdds();
        for (int i = 0; i < 9; i++) {
            x.sign(i % 2);
            DUE.is("STATES", x.count(7), Math.min(6, i + 1));
        }
        for (int left = 5; left >= 0; left--) {
            DUE.is("back()", x.back(), left);
            DUE.row("the newest first", x, "010101010".substring(0, 3 + left));
        }
        DUE.is("older ones are lost", x.back(), TreeOdds.NO);
        DUE.is("SIGNS", x.count(4), 3);
        for (int i = 0; i < 4; i++) x.sets(0, i);
        DUE.is("4 anew", x.count(7), 4);
        x.back();
        DUE.is("DEPTH", x.count(5), 2);
        for (int i = 0; i < 5; i++) x.sign(1);
        for (int i = 0; i < 5; i++) x.back();
        DUE.is("1 yet", x.count(7), 1);
        x.back();
        DUE.is("DEPTH of that", x.count(5), 1);
    }

    private static void count() {
        TreeOdds x = new TreeOdds();
        x.sign(5);
        x.at(0);
        x.drop();
        x.back();
        x.drop();
        for (int i = 0; i < 122; i++) x.type(32);
        x.draw(4, 7, 50);
        x.sets(0, 2);
        x.sets(1, 3);
        x.draw(4, 94, 50);
        int[] want = {2, 3, 3, 120, 7, 2, 3, 3};
        for (int what = 0; what < 8; what++) DUE.is("count(" + what + ")", x.count(what), want[what]);
        DUE.is("count(8)", x.count(8), TreeOdds.BAD);
        DUE.is("count(-1)", x.count(-1), TreeOdds.BAD);
        DUE.is("times BAD", x.count(0), 4);
    }

    private static long hash(long... all) {
        long h = 2113;
        for (long v : all) h = 31 * h + v;
        return h;
    }

    private static void digest() {
        TreeOdds x = new TreeOdds();
        DUE.is("none", x.digest(), hash(0, 0, 0, 0, 0, 3, 0, 0, 32768, 0, 8, 0, 0, 0, 0));
        DUE.is("again", x.digest(), hash(0, 0, 0, 0, 0, 3, 0, 0, 32768, 0, 8, 0, 0, 0, 0));
        x.sign(1);
        x.sign(0);
        x.sign(1);
        x.sign(1);
        DUE.is("1011", x.digest(), hash(0, 0, 0, 0, 4, 3, 0, 4, 1, 0, 1, 1, 38593, 77, 84, 80, 0, 0, 0));
        x.drop();
        x.drop();
        x.drop();
        x.drop();
        x.drop();
        x.type(48);
        x.type(-1);
        x.sign(1);
        x.sets(0, 1);
        x.sets(1, 2);
        DUE.is("1 by other", x.digest(), hash(1, 1, 0, 1, 1, 1, 2, 6, 1, x.guess(), 16, 24, 0, 0, 0, 0));
        DUE.is("BOLD, by LEVEL 0 and a new CHILD", x.guess(), (65536 * 5 / 6 + 32768) / 2);
    }
}
