import java.math.BigInteger;
import java.util.ArrayDeque;
import java.util.ArrayList;
import java.util.Deque;
import java.util.HashMap;
import java.util.List;
import java.util.Map;

/**
 * The document once more, as near to its words as can be and without a thought for speed: everything is worked
 * out from the row as a String whenever it is asked. Big numbers stand where the class must mind its carries.
 */
final class Plain {
    String row = "";
    int depth = 3;
    int guesser = 0;
    String text = "";
    int bad = 0, no = 0, full = 0;
    final Deque<Object[]> states = new ArrayDeque<>();

    /** A NODE, by its past's SIGNS, the nearest first. */
    static final class Node {
        int a, b;
        long weight = 32768;
        int alone;
    }

    /** All NODES of one DEPTH and GUESSER behind some SIGNS. */
    static final class World {
        final int depth, guesser;
        final Map<String, Node> nodes = new HashMap<>();
        String seen = "";

        World(int depth, int guesser) {
            this.depth = depth;
            this.guesser = guesser;
        }

        Node node(String past) {
            return nodes.computeIfAbsent(past, p -> new Node());
        }

        String past() {
            return (new StringBuilder(seen).reverse() + "000000").substring(0, depth);
        }

        long own(String past) {
            Node n = node(past);
            return opinion(guesser, n.a, n.b);
        }

        long guess(String past, int level) {
            String here = past.substring(0, level);
            if (level == depth) return own(here);
            long w = node(here).weight;
            return clamp((w * own(here) + (65536 - w) * guess(past, level + 1)) / 65536, 1, 65535);
        }

        long guess() {
            return guess(past(), 0);
        }

        void come(char s) {
            String past = past();
            Map<Node, Long> weights = new HashMap<>();
            for (int l = 0; l < depth; l++) {
                Node n = node(past.substring(0, l));
                long o = of(s, own(past.substring(0, l)));
                long c = of(s, guess(past, l + 1));
                weights.put(n, clamp(65536 * n.weight * o / (n.weight * o + (65536 - n.weight) * c), 64, 65472));
            }
            for (int l = 0; l <= depth; l++) {
                String here = past.substring(0, l);
                Node n = node(here);
                n.alone += bits(of(s, own(here)));
            }
            for (Map.Entry<Node, Long> e : weights.entrySet()) e.getKey().weight = e.getValue();
            for (int l = 0; l <= depth; l++) {
                Node n = node(past.substring(0, l));
                if (s == '1') n.b++;
                else n.a++;
                if (n.a > 60 || n.b > 60) {
                    n.a = n.a / 2;
                    n.b = n.b / 2;
                }
            }
            seen = seen + s;
        }
    }

    static long clamp(long v, long least, long most) {
        return Math.max(least, Math.min(most, v));
    }

    static long opinion(int guesser, int a, int b) {
        switch (guesser) {
            case 0: return clamp(65536L * (2 * b + 1) / (2 * a + 2 * b + 2), 1, 65535);
            case 1: return clamp(65536L * (b + 1) / (a + b + 2), 1, 65535);
            case 2: return clamp(65536L * (4 * b + 1) / (4 * a + 4 * b + 2), 1, 65535);
            default: return opinion(0, a / 2, b / 2);
        }
    }

    static long of(char s, long likelihood) {
        return s == '1' ? likelihood : 65536 - likelihood;
    }

    static int bits(long p) {
        String binary = Long.toBinaryString(p);
        int place = binary.length() - 1;
        String behind = (binary.substring(1) + "0000").substring(0, 4);
        return 16 * (16 - place) - Integer.parseInt(behind, 2);
    }

    World world(String signs, int d, int g) {
        World w = new World(d, g);
        for (char s : signs.toCharArray()) w.come(s);
        return w;
    }

    World now() {
        return world(row, depth, guesser);
    }

    int costOf(String signs, int from, int d, int g) {
        World w = new World(d, g);
        int cost = 0;
        for (int i = 0; i < signs.length(); i++) {
            if (i >= from) cost += bits(of(signs.charAt(i), w.guess()));
            w.come(signs.charAt(i));
        }
        return cost;
    }

    int bad() {
        bad++;
        return -2;
    }

    int no() {
        no++;
        return -3;
    }

    int full() {
        full++;
        return -4;
    }

    void state() {
        states.addLast(new Object[] {row, depth, guesser});
        if (states.size() > 6) states.removeFirst();
    }

    int add(String signs) {
        state();
        int from = row.length();
        row = row + signs;
        return costOf(row, from, depth, guesser);
    }

    int sign(int s) {
        if (s != 0 && s != 1) return bad();
        if (row.length() == 100) return full();
        return add("" + s);
    }

    int signs(long bits, int n) {
        if (n < 1 || n > 64) return bad();
        if (row.length() + n > 100) return full();
        String all = String.format("%64s", Long.toBinaryString(bits)).replace(' ', '0');
        return add(new StringBuilder(all).reverse().substring(0, n));
    }

    int draw(int seed, int n, int p) {
        if (seed < 0 || seed > 999999 || n < 1 || n > 100 || p < 0 || p > 100) return bad();
        if (row.length() + n > 100) return full();
        BigInteger x = BigInteger.valueOf(seed);
        StringBuilder drawn = new StringBuilder();
        int ones = 0;
        for (int i = 0; i < n; i++) {
            x = x.multiply(BigInteger.valueOf(1103515245)).add(BigInteger.valueOf(12345)).mod(BigInteger.ONE.shiftLeft(31));
            boolean one = x.shiftRight(16).mod(BigInteger.valueOf(100)).intValue() < p;
            drawn.append(one ? '1' : '0');
            if (one) ones++;
        }
        add(drawn.toString());
        return ones;
    }

    int sets(int what, int v) {
        if (what == 0 && v >= 0 && v <= 6) {
            state();
            int was = depth;
            depth = v;
            return was;
        }
        if (what == 1 && v >= 0 && v <= 3) {
            state();
            int was = guesser;
            guesser = v;
            return was;
        }
        return bad();
    }

    int empties() {
        state();
        int were = row.length();
        row = "";
        return were;
    }

    int drop() {
        if (row.isEmpty()) return no();
        state();
        row = row.substring(0, row.length() - 1);
        return row.length();
    }

    int at(int k) {
        return k < 0 || k >= row.length() ? bad() : row.charAt(k) - '0';
    }

    int guess() {
        return (int) now().guess();
    }

    int was(int k, int what) {
        if (k < 0 || k >= row.length() || what < 0 || what > 1) return bad();
        long guess = world(row.substring(0, k), depth, guesser).guess();
        return what == 0 ? (int) guess : bits(of(row.charAt(k), guess));
    }

    boolean isNode(int l, int p) {
        return l >= 0 && l <= depth && p >= 0 && p < Math.pow(2, l);
    }

    static String past(int l, int p) {
        StringBuilder s = new StringBuilder();
        for (int i = 0; i < l; i++) s.append((p >> i) & 1);
        return s.toString();
    }

    int node(int l, int p, int what) {
        if (!isNode(l, p) || what < 0 || what > 3) return bad();
        World w = now();
        Node n = w.node(past(l, p));
        return what == 0 ? n.a : what == 1 ? n.b : what == 2 ? (int) w.own(past(l, p)) : l == depth ? 65536 : (int) n.weight;
    }

    int cost() {
        return costOf(row, 0, depth, guesser);
    }

    int costBy(int d, int g) {
        return d < 0 || d > 6 || g < 0 || g > 3 ? bad() : costOf(row, 0, d, g);
    }

    int best(int what) {
        if (what < 0 || what > 2) return bad();
        int[] best = null;
        for (int d = 0; d <= 6; d++) {
            for (int g = 0; g <= 3; g++) {
                int cost = costOf(row, 0, d, g);
                if (best == null || cost < best[2]) best = new int[] {d, g, cost};
            }
        }
        return best[what];
    }

    int follows(int n) {
        if (n < 1 || n > 16) return bad();
        World w = now();
        int bits = 0;
        for (int i = 0; i < n; i++) {
            char s = w.guess() >= 32768 ? '1' : '0';
            if (s == '1') bits += 1 << i;
            w.come(s);
        }
        return bits;
    }

    /** A full tree below a past: its cost and the pasts of its leaves. */
    static final class Grown {
        int cost;
        List<String> leaves = new ArrayList<>();
    }

    Grown grown(World w, String past) {
        Grown leaf = new Grown();
        leaf.cost = w.node(past).alone;
        leaf.leaves.add(past);
        if (past.length() == depth) return leaf;
        Grown zero = grown(w, past + "0"), one = grown(w, past + "1");
        if (zero.cost + one.cost < leaf.cost) {
            leaf.cost = zero.cost + one.cost;
            leaf.leaves = new ArrayList<>(zero.leaves);
            leaf.leaves.addAll(one.leaves);
        }
        leaf.cost += 8;
        return leaf;
    }

    int tree(int what) {
        if (what < 0 || what > 2) return bad();
        Grown g = grown(now(), "");
        if (what == 0) return g.cost;
        if (what == 1) return g.leaves.size();
        int deepest = 0;
        for (String leaf : g.leaves) deepest = Math.max(deepest, leaf.length());
        return deepest;
    }

    int leaf(int l, int p) {
        if (!isNode(l, p)) return bad();
        String past = past(l, p);
        for (String leaf : grown(now(), "").leaves) {
            if (leaf.equals(past)) return 1;
            if (leaf.startsWith(past)) return 2;
        }
        return 0;
    }

    /** LOW is never cut here: all bytes stay in one big number, in which a carry needs no care. */
    int[] bytes() {
        World w = new World(depth, guesser);
        BigInteger low = BigInteger.ZERO;
        long range = 1L << 32;
        int out = 0;
        for (char s : row.toCharArray()) {
            long part = range / 65536 * w.guess();
            if (s == '1') {
                range = part;
            } else {
                low = low.add(BigInteger.valueOf(part));
                range -= part;
            }
            while (range < 1L << 24) {
                low = low.shiftLeft(8);
                range <<= 8;
                out++;
            }
            w.come(s);
        }
        int[] bytes = new int[out + 4];
        for (int i = 0; i < bytes.length; i++) {
            bytes[i] = low.shiftRight(8 * (bytes.length - 1 - i)).intValue() & 255;
        }
        return bytes;
    }

    int written(int k) {
        if (k < -1) {
            bad();
            return -10;
        }
        int[] bytes = bytes();
        return k == -1 ? bytes.length : k < bytes.length ? bytes[k] : -5;
    }

    int reads(int k, int x) {
        int[] bytes = bytes();
        if (k < -1 || k >= bytes.length || k >= 0 && (x < 1 || x > 255)) return bad();
        if (k >= 0) bytes[k] ^= x;
        List<Integer> left = new ArrayList<>();
        for (int b : bytes) left.add(b);
        long code = 0, range = 1L << 32;
        for (int i = 0; i < 4; i++) code = code * 256 + left.remove(0);
        World w = new World(depth, guesser);
        int alike = 0;
        for (char due : row.toCharArray()) {
            long part = range / 65536 * w.guess();
            char s = code < part ? '1' : '0';
            range = s == '1' ? part : range - part;
            code = s == '1' ? code : code - part;
            while (range < 1L << 24) {
                code = code * 256 + (left.isEmpty() ? 0 : left.remove(0));
                range *= 256;
            }
            w.come(s);
            if (s == due) alike++;
        }
        return alike;
    }

    int type(int c) {
        if (c < 0 || c > 127) return bad();
        if (text.length() == 120) return full();
        text = text + (char) c;
        return text.length();
    }

    int clear() {
        int had = text.length();
        text = "";
        return had;
    }

    /** Where the reader of a text is: what may come next. */
    enum At { PIECE, BEHIND_SIGN, BEHIND_X, BEHIND_GROUP, BEHIND_GROUP_X }

    /** The fault as a negative number less 1, or the SIGNS. */
    String signsOfText(int[] fault) {
        At at = At.PIECE;
        StringBuilder out = new StringBuilder(), group = null;
        int place = 0;
        char sign = '0';
        fault[0] = -1;
        for (int i = 0; i <= text.length(); i++) {
            boolean end = i == text.length();
            char c = end ? '.' : text.charAt(i);
            if (c == ' ') continue;
            int times = 0;
            if (at == At.BEHIND_SIGN && c != 'x') times = 1;
            if (at == At.BEHIND_X || at == At.BEHIND_GROUP_X) {
                int j = i;
                while (j < text.length() && Character.isDigit(text.charAt(j))) j++;
                times = j == i || j - i > 2 ? 0 : Integer.parseInt(text.substring(i, j));
                if (times == 0) return fault(fault, i);
                i = j - 1;
            }
            if (at == At.BEHIND_GROUP && c != 'x') return fault(fault, i);
            if (times > 0) {
                boolean ofGroup = at == At.BEHIND_GROUP_X;
                StringBuilder to = group != null && !ofGroup ? group : out;
                for (int t = 0; t < times; t++) to.append(ofGroup ? group.toString() : "" + sign);
                int open = group != null && !ofGroup ? group.length() : 0;
                if (row.length() + out.length() + open > 100) return fault(fault, place);
                if (ofGroup) group = null;
                boolean hadNumber = at != At.BEHIND_SIGN;
                at = At.PIECE;
                if (hadNumber) continue;
            }
            if (end) break;
            if (at == At.BEHIND_SIGN) {
                at = At.BEHIND_X;
            } else if (at == At.BEHIND_GROUP) {
                at = At.BEHIND_GROUP_X;
            } else if (c == '0' || c == '1') {
                int before = out.length() + (group == null ? 0 : group.length());
                if (row.length() + before + 1 > 100) return fault(fault, i);
                place = i;
                sign = c;
                at = At.BEHIND_SIGN;
            } else if (c == '(' && group == null) {
                group = new StringBuilder();
            } else if (c == ')' && group != null && group.length() > 0) {
                place = i;
                at = At.BEHIND_GROUP;
            } else {
                return fault(fault, i);
            }
        }
        return at != At.PIECE || group != null ? fault(fault, text.length()) : out.toString();
    }

    static String fault(int[] fault, int place) {
        fault[0] = place;
        return "";
    }

    int told() {
        int[] fault = new int[1];
        String signs = signsOfText(fault);
        if (fault[0] >= 0) return -10 - fault[0];
        add(signs);
        return signs.length();
    }

    int back() {
        if (states.isEmpty()) return no();
        Object[] state = states.removeLast();
        row = (String) state[0];
        depth = (Integer) state[1];
        guesser = (Integer) state[2];
        return states.size();
    }

    int count(int what) {
        if (what < 0 || what > 7) return bad();
        return new int[] {bad, no, full, text.length(), row.length(), depth, guesser, states.size()}[what];
    }

    long digest() {
        List<Long> all = new ArrayList<>();
        for (int i = 0; i < 8; i++) all.add((long) count(i));
        for (char s : row.toCharArray()) all.add((long) (s - '0'));
        all.add((long) guess());
        all.add((long) cost());
        all.add((long) tree(0));
        for (int b : bytes()) all.add((long) b);
        long h = 2113;
        for (long v : all) h = 31 * h + v;
        return h;
    }
}
