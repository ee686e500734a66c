import java.util.Random;

/** Runs of calls by chance (always the same ones), each answer beside that of Plain: all promises. */
public final class RandomRunsTest {
    private static final Due DUE = new Due("RandomRunsTest");
    private static final String BYTES = "0011xx()123456789  ;+a";

    private final Random chance;
    private final TreeOdds x = new TreeOdds();
    private final Plain y = new Plain();
    private final String run;

    private RandomRunsTest(int seed) {
        chance = new Random(seed);
        run = "run " + seed + ": ";
    }

    public static void main(String[] args) {
        for (int seed = 1; seed <= 60; seed++) new RandomRunsTest(seed).go(512);
        DUE.end();
    }

    private void go(int calls) {
        int left = calls;
        while (left > 0) left -= step(left);
    }

    /** Mostly a number as told, now and then one at the edge or beyond it. */
    private int number(int least, int most) {
        int kind = chance.nextInt(40);
        if (kind == 0) return least - 1;
        if (kind == 1) return most + 1;
        if (kind == 2) return chance.nextInt();
        if (kind == 3) return Integer.MIN_VALUE;
        if (kind == 4) return Integer.MAX_VALUE;
        if (kind == 5) return least;
        if (kind == 6) return most;
        return least + chance.nextInt(Math.max(1, most - least + 1));
    }

    private int step(int left) {
        switch (chance.nextInt(26)) {
            case 0: case 1: case 2: return sign();
            case 3: return signs();
            case 4: return draw();
            case 5: return sets();
            case 6: return chance.nextInt(4) == 0 ? due("empties()", x.empties(), y.empties()) : due("drop()", x.drop(), y.drop());
            case 7: { int k = number(0, y.row.length() - 1); return due("at(" + k + ")", x.at(k), y.at(k)); }
            case 8: return due("guess()", x.guess(), y.guess());
            case 9: {
                int k = number(0, y.row.length() - 1), what = number(0, 1);
                return due("was(" + k + ", " + what + ")", x.was(k, what), y.was(k, what));
            }
            case 10: case 11: return node();
            case 12: return due("cost()", x.cost(), y.cost());
            case 13: {
                int d = number(0, 6), g = number(0, 3);
                return due("costBy(" + d + ", " + g + ")", x.costBy(d, g), y.costBy(d, g));
            }
            case 14: { int what = number(0, 2); return due("best(" + what + ")", x.best(what), y.best(what)); }
            case 15: { int n = number(1, 16); return due("follows(" + n + ")", x.follows(n), y.follows(n)); }
            case 16: { int what = number(0, 2); return due("tree(" + what + ")", x.tree(what), y.tree(what)); }
            case 17: {
                int l = number(0, y.depth), p = number(0, (1 << Math.max(0, Math.min(6, l))) - 1);
                return due("leaf(" + l + ", " + p + ")", x.leaf(l, p), y.leaf(l, p));
            }
            case 18: { int k = number(-1, y.bytes().length); return due("written(" + k + ")", x.written(k), y.written(k)); }
            case 19: {
                int k = number(-1, y.bytes().length - 1), by = number(1, 255);
                return due("reads(" + k + ", " + by + ")", x.reads(k, by), y.reads(k, by));
            }
            case 20: { int c = number(0, 127); return due("type(" + c + ")", x.type(c), y.type(c)); }
            case 21: case 22: return left < 2 ? 0 : text(left);
            case 23: return due("back()", x.back(), y.back());
            case 24: { int what = number(0, 7); return due("count(" + what + ")", x.count(what), y.count(what)); }
            default: return due("digest()", x.digest(), y.digest());
        }
    }

    private int sign() {
        int s = number(0, 1);
        return due("sign(" + s + ")", x.sign(s), y.sign(s));
    }

    private int signs() {
        long bits = chance.nextBoolean() ? chance.nextLong() : 0x5555555555555555L << chance.nextInt(3);
        int n = chance.nextInt(4) == 0 ? number(1, 64) : number(1, 12);
        return due("signs(" + bits + ", " + n + ")", x.signs(bits, n), y.signs(bits, n));
    }

    private int draw() {
        int seed = number(0, 999999), p = number(0, 100);
        int n = chance.nextInt(4) == 0 ? number(1, 100) : number(1, 20);
        return due("draw(" + seed + ", " + n + ", " + p + ")", x.draw(seed, n, p), y.draw(seed, n, p));
    }

    private int sets() {
        int what = number(0, 1), v = number(0, what == 0 ? 6 : 3);
        return due("sets(" + what + ", " + v + ")", x.sets(what, v), y.sets(what, v));
    }

    private int node() {
        int l = number(0, y.depth), p = number(0, (1 << Math.max(0, Math.min(6, l))) - 1), what = number(0, 3);
        return due("node(" + l + ", " + p + ", " + what + ")", x.node(l, p, what), y.node(l, p, what));
    }

    private int text(int left) {
        int calls = 1;
        due("clear()", x.clear(), y.clear());
        String text = chance.nextInt(3) == 0 ? anyText() : goodText();
        for (int i = 0; i < text.length() && calls + 1 < left; i++, calls++) {
            int c = text.charAt(i);
            due("type(" + c + ")", x.type(c), y.type(c));
        }
        return calls + due("told() of '" + y.text + "' behind " + y.row.length(), x.told(), y.told());
    }

    private String anyText() {
        StringBuilder text = new StringBuilder();
        int n = chance.nextInt(8);
        for (int i = 0; i < n; i++) text.append(BYTES.charAt(chance.nextInt(BYTES.length())));
        return text.toString();
    }

    private String goodText() {
        StringBuilder text = new StringBuilder();
        int pieces = chance.nextInt(4);
        for (int i = 0; i < pieces; i++) {
            if (chance.nextInt(3) == 0) {
                text.append('(').append(someSign()).append(someSign()).append(")x").append(1 + chance.nextInt(6));
            } else {
                text.append(someSign());
            }
            if (chance.nextInt(4) == 0) text.append(' ');
        }
        return text.toString();
    }

    private String someSign() {
        String s = chance.nextBoolean() ? "1" : "0";
        if (chance.nextInt(3) != 0) return s;
        return s + (chance.nextInt(4) == 0 ? " x " : "x") + (1 + chance.nextInt(chance.nextInt(5) == 0 ? 99 : 9));
    }

    private int due(String call, long got, long want) {
        DUE.is(run + call, got, want);
        return 1;
    }
}
