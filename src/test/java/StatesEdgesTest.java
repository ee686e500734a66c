import java.math.BigInteger;
import java.util.function.Consumer;

/** The edges that the document names for STATES, refusals, the 512 calls and promises 23 to 25, a sentence each. */
public final class StatesEdgesTest {
    private static final Due DUE = new Due("StatesEdgesTest");
    private static final int BAD = TreeOdds.BAD, NO = TreeOdds.NO, FULL = TreeOdds.FULL;
    private static final int LEAST = Integer.MIN_VALUE, MOST = Integer.MAX_VALUE;

    public static void main(String[] args) {
        eachCallToldSLeavesOne();
        thoseThatChangeNothingLeaveOneToo();
        noOtherCallLeavesOne();
        refusedCallsLeaveNone();
        sixAtMost();
        olderOnesAreLost();
        backTellsHowManyCanBeYet();
        backIsNoOfNone();
        backBringsRowDepthAndGuesser();
        backLeavesTheTextAndHowOften();
        backOfAFullRow();
        refusedIsTheFirstOfBadNoFull();
        refusedChangesNothingButHowOften();
        byAFaultNothingCounts();
        countWhatIs0To7();
        countTellsHowOften();
        digestRunsOver();
        digestTakesAllInTurn();
        fiveHundredAndTwelveCalls();
        callsBeyondThemEnd();
        DUE.end();
    }

    /** A row, a text and a DEPTH and GUESSER of their own, with 3 STATES. */
    private static TreeOdds some() {
        TreeOdds x = new TreeOdds();
        x.draw(17, 40, 60);
        x.sets(0, 4);
        x.sets(1, 1);
        Due.type(x, "(01)x2");
        return x;
    }

    private static void leaves(String call, int more, Consumer<TreeOdds> ask) {
        TreeOdds x = some();
        long before = x.digest();
        ask.accept(x);
        DUE.is(call + ": STATES", x.count(7), 3 + more);
        if (more < 1) return;
        DUE.is(call + ": back()", x.back(), 3);
        DUE.is(call + ": the digest behind back()", x.digest(), before);
    }

    /** "each call told S leaves one to go back to": promises 2 to 7 and 22. */
    private static void eachCallToldSLeavesOne() {
        leaves("sign", 1, x -> x.sign(1));
        leaves("signs", 1, x -> x.signs(5L, 3));
        leaves("signs of 60", 1, x -> x.signs(-1L, 60));
        leaves("draw", 1, x -> x.draw(1, 60, 50));
        leaves("sets, DEPTH", 1, x -> x.sets(0, 0));
        leaves("sets, GUESSER", 1, x -> x.sets(1, 3));
        leaves("empties", 1, TreeOdds::empties);
        leaves("drop", 1, TreeOdds::drop);
        leaves("told", 1, TreeOdds::told);
    }

    private static void thoseThatChangeNothingLeaveOneToo() {
        leaves("sets, DEPTH as it is", 1, x -> x.sets(0, 4));
        leaves("sets, GUESSER as it is", 1, x -> x.sets(1, 1));
        TreeOdds x = new TreeOdds();
        x.empties();
        DUE.is("empties of none", x.count(7), 1);
        x.told();
        DUE.is("told of no TEXT", x.count(7), 2);
    }

    private static void noOtherCallLeavesOne() {
        leaves("at", 0, x -> x.at(0));
        leaves("guess", 0, TreeOdds::guess);
        leaves("was", 0, x -> x.was(0, 0));
        leaves("node", 0, x -> x.node(0, 0, 0));
        leaves("cost", 0, TreeOdds::cost);
        leaves("costBy", 0, x -> x.costBy(6, 3));
        leaves("best", 0, x -> x.best(0));
        leaves("follows", 0, x -> x.follows(16));
        leaves("tree", 0, x -> x.tree(0));
        leaves("leaf", 0, x -> x.leaf(0, 0));
        leaves("written", 0, x -> x.written(0));
        leaves("reads", 0, x -> x.reads(0, 1));
        leaves("type", 0, x -> x.type('0'));
        leaves("clear", 0, TreeOdds::clear);
        leaves("count", 0, x -> x.count(7));
        leaves("digest", 0, TreeOdds::digest);
        leaves("back", -1, TreeOdds::back);
    }

    private static void refusedCallsLeaveNone() {
        leaves("sign, BAD", 0, x -> x.sign(2));
        leaves("signs, BAD", 0, x -> x.signs(0L, 65));
        leaves("signs, FULL", 0, x -> x.signs(0L, 61));
        leaves("draw, BAD", 0, x -> x.draw(-1, 1, 1));
        leaves("draw, FULL", 0, x -> x.draw(1, 61, 1));
        leaves("sets, BAD", 0, x -> x.sets(0, 7));
        leaves("told, FAULT", 0, x -> { x.type('z'); x.told(); });
        TreeOdds x = new TreeOdds();
        x.drop();
        DUE.is("drop, NO", x.count(7), 0);
        x.back();
        DUE.is("back, NO", x.count(7), 0);
        x.draw(1, 100, 50);
        x.sign(1);
        DUE.is("sign, FULL", x.count(7), 1);
    }

    /** "6 at most": 5, 6 and 7 calls. */
    private static void sixAtMost() {
        TreeOdds x = new TreeOdds();
        for (int calls = 1; calls <= 20; calls++) {
            x.sign(calls % 2);
            DUE.is(calls + " calls: STATES", x.count(7), Math.min(calls, 6));
        }
    }

    /** "older ones lost". */
    private static void olderOnesAreLost() {
        for (int calls : new int[] {1, 5, 6, 7, 8, 11, 12, 13, 40}) {
            TreeOdds x = new TreeOdds();
            for (int i = 0; i < calls; i++) x.sign(i % 3 == 0 ? 1 : 0);
            String row = Due.row(x);
            int kept = Math.min(calls, 6);
            for (int left = kept - 1; left >= 0; left--) {
                DUE.is("back() of " + calls, x.back(), left);
                DUE.row("the newest first, of " + calls, x, row.substring(0, calls - kept + left));
            }
            DUE.refused("no more of " + calls, x, x::back, NO);
        }
    }

    /** Promise 23: "how many can be yet"; those left over stay where new ones come behind them. */
    private static void backTellsHowManyCanBeYet() {
        TreeOdds x = new TreeOdds();
        for (int i = 0; i < 7; i++) x.sign(1);
        DUE.is("back()", x.back(), 5);
        DUE.is("STATES", x.count(7), 5);
        x.sign(0);
        DUE.is("6 again", x.count(7), 6);
        DUE.is("back() again", x.back(), 5);
        for (int left = 4; left >= 0; left--) DUE.is("back() on", x.back(), left);
        DUE.row("as it was ahead of the second", x, "1");
        for (int i = 0; i < 6; i++) x.sets(0, i);
        DUE.is("6 anew", x.count(7), 6);
        x.sets(0, 6);
        for (int i = 5; i >= 0; i--) {
            x.back();
            DUE.is("DEPTH again", x.count(5), i);
        }
        DUE.refused("DEPTH 3 is lost", x, x::back, NO);
    }

    /** Promise 23: "NO: none". */
    private static void backIsNoOfNone() {
        TreeOdds x = new TreeOdds();
        DUE.refused("at first", x, x::back, NO);
        x.sign(1);
        DUE.is("one", x.back(), 0);
        DUE.refused("none again", x, x::back, NO);
        DUE.is("a STATE behind a refused back", x.sign(1) + x.back(), 16);
    }

    /** Promise 23: "A STATE back (THE ROW, DEPTH, GUESSER)". */
    private static void backBringsRowDepthAndGuesser() {
        TreeOdds x = Due.of(5, 2, "01");
        x.sets(0, 1);
        x.sets(1, 3);
        x.empties();
        x.sign(1);
        x.back();
        x.back();
        DUE.row("row", x, "01");
        DUE.is("DEPTH", x.count(5), 1);
        DUE.is("GUESSER", x.count(6), 3);
        x.back();
        DUE.is("GUESSER ahead", x.count(6), 2);
        DUE.is("DEPTH still", x.count(5), 1);
        x.back();
        DUE.is("DEPTH ahead", x.count(5), 5);
        TreeOdds y = Due.of(5, 2, "01");
        DUE.is("guess ahead", x.guess(), y.guess());
        DUE.is("cost ahead", x.cost(), y.cost());
        DUE.is("tree ahead", x.tree(0), y.tree(0));
    }

    private static void backLeavesTheTextAndHowOften() {
        TreeOdds x = new TreeOdds();
        x.type('0');
        x.sign(1);
        x.type('1');
        x.sign(2);
        x.back();
        DUE.is("bytes", x.count(3), 2);
        DUE.is("times BAD", x.count(0), 1);
        x.back();
        DUE.is("times NO", x.count(1), 1);
        DUE.is("told()", x.told(), 2);
        DUE.row("of the TEXT there is", x, "01");
    }

    private static void backOfAFullRow() {
        TreeOdds x = new TreeOdds();
        x.draw(23, 100, 50);
        String row = Due.row(x);
        int cost = x.cost();
        x.empties();
        x.draw(24, 100, 50);
        x.drop();
        x.back();
        x.back();
        DUE.is("SIGNS", x.count(4), 0);
        x.back();
        DUE.row("100 again", x, row);
        DUE.is("their cost", x.cost(), cost);
        DUE.refused("full again", x, () -> x.sign(0), FULL);
    }

    /** "Refused ... the first of: BAD -2 a number is not as told; NO -3 as told; FULL -4 as told". */
    private static void refusedIsTheFirstOfBadNoFull() {
        TreeOdds x = new TreeOdds();
        x.draw(1, 100, 50);
        for (int i = 0; i < 120; i++) x.type(' ');
        DUE.refused("sign", x, () -> x.sign(2), BAD);
        DUE.refused("signs", x, () -> x.signs(0L, 0), BAD);
        DUE.refused("draw", x, () -> x.draw(1000000, 1, 1), BAD);
        DUE.refused("type", x, () -> x.type(128), BAD);
        DUE.refused("sign", x, () -> x.sign(0), FULL);
        DUE.refused("signs", x, () -> x.signs(0L, 1), FULL);
        DUE.refused("draw", x, () -> x.draw(999999, 1, 1), FULL);
        DUE.refused("type", x, () -> x.type(127), FULL);
    }

    private static void refuseAll(TreeOdds x) {
        x.sign(2);
        x.signs(0L, 0);
        x.signs(-1L, 61);
        x.draw(0, 0, 0);
        x.draw(0, 61, 50);
        x.sets(0, 7);
        x.sets(1, 4);
        x.at(-1);
        x.was(40, 0);
        x.node(0, 1, 0);
        x.costBy(7, 0);
        x.best(3);
        x.follows(17);
        x.tree(3);
        x.leaf(9, 0);
        x.written(-2);
        x.reads(99, 1);
        x.reads(0, 256);
        x.type(128);
        x.count(8);
    }

    /** "Refused, changing nothing but how often": the TEXT and the STATES that can be yet stay too. */
    private static void refusedChangesNothingButHowOften() {
        TreeOdds x = some(), y = some();
        refuseAll(x);
        DUE.is("times BAD", x.count(0), 18);
        DUE.is("times NO", x.count(1), 0);
        DUE.is("times FULL", x.count(2), 2);
        for (int what = 3; what <= 7; what++) DUE.is("count(" + what + ")", x.count(what), y.count(what));
        DUE.is("the TEXT tells as ahead", x.told(), y.told());
        DUE.row("row", x, Due.row(y));
        DUE.is("guess", x.guess(), y.guess());
        while (y.count(7) > 0) {
            DUE.is("back()", x.back(), y.back());
            DUE.row("row", x, Due.row(y));
            DUE.is("DEPTH", x.count(5), y.count(5));
            DUE.is("GUESSER", x.count(6), y.count(6));
            DUE.is("cost", x.cost(), y.cost());
        }
    }

    /** "By a FAULT nothing counts"; written's -5 is no refusal either. */
    private static void byAFaultNothingCounts() {
        TreeOdds x = some();
        x.type('z');
        DUE.stays("told()", x, x::told, -16);
        DUE.stays("written(99)", x, () -> x.written(99), -5);
        for (int what = 0; what < 3; what++) DUE.is("count(" + what + ")", x.count(what), 0);
    }

    /** Promise 24: "BAD (0), NO (1), FULL (2); bytes (3), SIGNS (4), DEPTH (5), GUESSER (6), STATES (7). BAD". */
    private static void countWhatIs0To7() {
        TreeOdds x = some();
        for (int what : new int[] {LEAST, -2, -1, 8, 9, MOST}) DUE.refused("count(" + what + ")", x, () -> x.count(what), BAD);
        int[] want = {6, 0, 0, 6, 40, 4, 1, 3};
        for (int what = 0; what <= 7; what++) {
            int w = what;
            DUE.stays("count(" + what + ")", x, () -> x.count(w), want[w]);
        }
    }

    private static void countTellsHowOften() {
        TreeOdds x = new TreeOdds();
        for (int i = 1; i <= 3; i++) DUE.is("NO", x.drop() + x.count(1), NO + i);
        for (int i = 1; i <= 3; i++) DUE.is("BAD", x.at(0) + x.count(0), BAD + i);
        x.draw(1, 100, 0);
        for (int i = 1; i <= 3; i++) DUE.is("FULL", x.sign(0) + x.count(2), FULL + i);
        DUE.is("written's -10 is one of BAD", x.written(-2) + x.count(0), -10 + 4);
    }

    /** Promise 25: h is a long and runs over, as 31 h + v does in Java. */
    private static void digestRunsOver() {
        TreeOdds x = new TreeOdds();
        x.draw(3, 100, 50);
        BigInteger h = BigInteger.valueOf(2113), times = BigInteger.valueOf(31);
        for (int what = 0; what <= 7; what++) h = h.multiply(times).add(BigInteger.valueOf(x.count(what)));
        for (int k = 0; k < 100; k++) h = h.multiply(times).add(BigInteger.valueOf(x.at(k)));
        h = h.multiply(times).add(BigInteger.valueOf(x.guess()));
        h = h.multiply(times).add(BigInteger.valueOf(x.cost()));
        h = h.multiply(times).add(BigInteger.valueOf(x.tree(0)));
        int bytes = x.written(TreeOdds.NONE);
        for (int k = 0; k < bytes; k++) h = h.multiply(times).add(BigInteger.valueOf(x.written(k)));
        DUE.yes("more than a long holds", h.bitLength() > 64);
        DUE.is("of 100 SIGNS", x.digest(), h.longValue());
    }

    /** Promise 25, of no SIGNS and of one; the digest counts nothing itself. */
    private static void digestTakesAllInTurn() {
        TreeOdds x = new TreeOdds();
        long[] none = {0, 0, 0, 0, 0, 3, 0, 0, 32768, 0, 8, 0, 0, 0, 0};
        long[] one = {0, 0, 0, 0, 1, 3, 0, 1, 0, 16384, 16, 24, 128, 0, 0, 0};
        for (int i = 0; i < 2; i++) DUE.is("of none", x.digest(), hash(none));
        x.sign(0);
        for (int i = 0; i < 2; i++) DUE.is("of one", x.digest(), hash(one));
        for (int what = 0; what < 3; what++) DUE.is("nothing counts", x.count(what), 0);
    }

    private static long hash(long[] all) {
        long h = 2113;
        for (long v : all) h = 31 * h + v;
        return h;
    }

    /** "An object is used for at most 512 calls": the 511th and the 512th answer as the first. */
    private static void fiveHundredAndTwelveCalls() {
        TreeOdds x = new TreeOdds();
        for (int i = 0; i < 510; i++) x.sign(2);
        DUE.is("the 511th call", x.count(0), 510);
        DUE.is("the 512th call", x.sign(1), 16);
        TreeOdds y = new TreeOdds();
        for (int i = 0; i < 100; i++) y.sign(i % 2);
        for (int i = 0; i < 137; i++) {
            y.drop();
            y.best(2);
            y.sign(1);
        }
        DUE.is("the 512th call", y.drop(), 99);
        TreeOdds z = new TreeOdds();
        for (int i = 0; i < 511; i++) z.sets(0, i % 7);
        DUE.is("the 512th call", z.back(), 5);
    }

    /** What later calls answer is free, but they answer. */
    private static void callsBeyondThemEnd() {
        TreeOdds x = some();
        for (int i = 0; i < 200; i++) {
            x.sign(i % 2);
            x.signs(i, 3);
            refuseAll(x);
            x.told();
            x.type(i % 128);
            x.follows(16);
            x.digest();
            if (i % 9 == 0) x.empties();
            if (i % 7 == 0) x.back();
        }
        DUE.yes("all of them", x.count(4) <= 100);
    }
}
