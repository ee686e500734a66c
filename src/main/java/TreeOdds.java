/**
 * A row of noughts and ones, guessed sign by sign by what came ahead of it.
 * DOC.md tells what each call does; capital words in comments are its terms.
 */
public final class TreeOdds {
    public static final int NONE = -1, BAD = -2, NO = -3, FULL = -4;

    private static final int WRITTEN_BAD = -10, WRITTEN_END = -5, FAULT_BASE = -10;
    private static final int MOST_SIGNS = 100, MOST_DEPTH = 6, MOST_GUESSER = 3;
    private static final int LAPLACE = 1, BOLD = 2, LAST = 3;
    private static final int FIRST_DEPTH = 3, FIRST_GUESSER = 0;
    private static final int MOST_TEXT = 120, MOST_STATES = 6;
    private static final int LEVELS = MOST_DEPTH + 1, NODES = 1 << LEVELS;
    private static final int WHOLE = 65536, HALF = 32768;
    private static final int LEAST_WEIGHT = 64, MOST_WEIGHT = 65472;
    private static final int MOST_COUNT = 60, NODE_COST = 8;
    private static final int ABSENT = 0, LEAF = 1, PARTED = 2;
    private static final int BYTES_AT_END = 4;
    // A part of RANGE is 256 at least, so that a SIGN sends out 2 bytes at most.
    private static final int MOST_OUT = 2, MOST_BYTES = MOST_OUT * MOST_SIGNS + BYTES_AT_END;
    private static final long FULL_RANGE = 1L << 32, LEAST_RANGE = 1L << 24;

    private final Row row = new Row();
    private final Pasts spare = new Pasts();
    private final Contest contest = new Contest();
    private final BestTree bestTree = new BestTree();
    private final Writing writing = new Writing();
    private final Text text = new Text();
    private final States states = new States();
    private int timesBad = 0, timesNo = 0, timesFull = 0;

    public TreeOdds() {
    }

    // ---- the row

    public int sign(int s) {
        if (!within(s, 0, 1)) return refuse(BAD);
        if (!hasRoom(1)) return refuse(FULL);
        states.keep(row);
        return row.put(s);
    }

    public int signs(long bits, int n) {
        if (!within(n, 1, 64)) return refuse(BAD);
        if (!hasRoom(n)) return refuse(FULL);
        states.keep(row);
        int paid = 0;
        for (int i = 0; i < n; i++) paid += row.put((int) ((bits >>> i) & 1L));
        return paid;
    }

    public int draw(int seed, int n, int p) {
        if (!within(seed, 0, 999999) || !within(n, 1, 100) || !within(p, 0, 100)) return refuse(BAD);
        if (!hasRoom(n)) return refuse(FULL);
        states.keep(row);
        long x = seed;
        int ones = 0;
        for (int i = 0; i < n; i++) {
            x = (x * 1103515245L + 12345L) % 2147483648L;
            int drawn = (x / 65536L) % 100L < p ? 1 : 0;
            row.put(drawn);
            ones += drawn;
        }
        return ones;
    }

    public int sets(int what, int v) {
        if (!within(what, 0, 1)) return refuse(BAD);
        if (!within(v, 0, what == 0 ? MOST_DEPTH : MOST_GUESSER)) return refuse(BAD);
        states.keep(row);
        int depth = row.pasts.depth, guesser = row.pasts.guesser;
        if (what == 0) {
            row.comeAnew(row.length, v, guesser);
            return depth;
        }
        row.comeAnew(row.length, depth, v);
        return guesser;
    }

    public int empties() {
        states.keep(row);
        int were = row.length;
        row.comeAnew(0, row.pasts.depth, row.pasts.guesser);
        return were;
    }

    public int drop() {
        if (row.length < 1) return refuse(NO);
        states.keep(row);
        row.comeAnew(row.length - 1, row.pasts.depth, row.pasts.guesser);
        return row.length;
    }

    public int at(int k) {
        if (!row.has(k)) return refuse(BAD);
        return row.signs[k];
    }

    // ---- guesses

    public int guess() {
        return row.pasts.next();
    }

    public int was(int k, int what) {
        if (!row.has(k) || !within(what, 0, 1)) return refuse(BAD);
        return what == 0 ? row.foretold[k] : row.paid[k];
    }

    public int node(int l, int p, int what) {
        if (!row.pasts.has(l, p) || !within(what, 0, 3)) return refuse(BAD);
        int node = nodeOf(l, p);
        switch (what) {
            case 0: return row.pasts.zeros[node];
            case 1: return row.pasts.ones[node];
            case 2: return opinion(row.pasts.guesser, row.pasts.zeros[node], row.pasts.ones[node]);
            default: return l == row.pasts.depth ? WHOLE : row.pasts.weights[node];
        }
    }

    public int cost() {
        return row.paidInAll;
    }

    public int costBy(int d, int g) {
        if (!within(d, 0, MOST_DEPTH) || !within(g, 0, MOST_GUESSER)) return refuse(BAD);
        return row.priceBy(spare, d, g);
    }

    public int best(int what) {
        if (!within(what, 0, 2)) return refuse(BAD);
        contest.judge(row, spare);
        switch (what) {
            case 0: return contest.depth;
            case 1: return contest.guesser;
            default: return contest.price;
        }
    }

    public int follows(int n) {
        if (!within(n, 1, 16)) return refuse(BAD);
        row.priceBy(spare, row.pasts.depth, row.pasts.guesser);
        int bits = 0;
        for (int i = 0; i < n; i++) {
            int likelier = spare.next() >= HALF ? 1 : 0;
            bits |= likelier << i;
            spare.take(likelier);
        }
        return bits;
    }

    // ---- the best tree

    public int tree(int what) {
        if (!within(what, 0, 2)) return refuse(BAD);
        bestTree.grow(row.pasts);
        switch (what) {
            case 0: return bestTree.price();
            case 1: return bestTree.leaves;
            default: return bestTree.deepest;
        }
    }

    public int leaf(int l, int p) {
        if (!row.pasts.has(l, p)) return refuse(BAD);
        bestTree.grow(row.pasts);
        return bestTree.kinds[nodeOf(l, p)];
    }

    // ---- writing

    public int written(int k) {
        if (k < NONE) {
            refuse(BAD);
            return WRITTEN_BAD;
        }
        writing.write(row);
        if (k == NONE) return writing.length;
        return k < writing.length ? writing.byteAt(k) : WRITTEN_END;
    }

    public int reads(int k, int x) {
        if (k < NONE) return refuse(BAD);
        writing.write(row);
        if (k >= writing.length) return refuse(BAD);
        if (k != NONE && !within(x, 1, 255)) return refuse(BAD);
        if (k != NONE) writing.spoil(k, x);
        return writing.readAgain(row, spare);
    }

    // ---- texts

    public int type(int c) {
        if (!within(c, 0, 127)) return refuse(BAD);
        if (text.length >= MOST_TEXT) return refuse(FULL);
        return text.append(c);
    }

    public int clear() {
        int had = text.length;
        text.length = 0;
        return had;
    }

    public int told() {
        text.read(MOST_SIGNS - row.length);
        if (text.fault != NONE) return FAULT_BASE - text.fault;
        states.keep(row);
        for (int i = 0; i < text.found; i++) row.put(text.signs[i]);
        return text.found;
    }

    public int back() {
        if (states.size < 1) return refuse(NO);
        State old = states.release();
        old.copySignsTo(row);
        row.comeAnew(old.length, old.depth, old.guesser);
        return states.size;
    }

    public int count(int what) {
        switch (what) {
            case 0: return timesBad;
            case 1: return timesNo;
            case 2: return timesFull;
            case 3: return text.length;
            case 4: return row.length;
            case 5: return row.pasts.depth;
            case 6: return row.pasts.guesser;
            case 7: return states.size;
            default: return refuse(BAD);
        }
    }

    public long digest() {
        long h = 2113L;
        for (int what = 0; what <= 7; what++) h = 31L * h + count(what);
        for (int i = 0; i < row.length; i++) h = 31L * h + row.signs[i];
        h = 31L * h + guess();
        h = 31L * h + cost();
        h = 31L * h + tree(0);
        writing.write(row);
        for (int i = 0; i < writing.length; i++) h = 31L * h + writing.byteAt(i);
        return h;
    }

    private int refuse(int why) {
        if (why == BAD) timesBad++;
        else if (why == NO) timesNo++;
        else timesFull++;
        return why;
    }

    private boolean hasRoom(int more) {
        return row.length + more <= MOST_SIGNS;
    }

    private static boolean within(int v, int least, int most) {
        return v >= least && v <= most;
    }

    private static int kept(long v, int least, int most) {
        return v < least ? least : v > most ? most : (int) v;
    }

    /** A number below NODES for each NODE: the past with a 1 beyond it, so that pasts of all LEVELS are unlike. */
    private static int nodeOf(int level, int past) {
        int end = 1 << kept(level, 0, MOST_DEPTH);
        return end | (past & (end - 1));
    }

    /** A quotient, cut; no call has a bottom below 1, the test keeps the machine from dividing by 0. */
    private static long quotient(long top, long bottom) {
        return bottom < 1L ? 0L : top / bottom;
    }

    /** What a GUESSER tells for a 0s and b 1s. */
    private static int opinion(int guesser, int a, int b) {
        long top = 2 * b + 1, bottom = 2 * a + 2 * b + 2;
        if (guesser == LAPLACE) {
            top = b + 1;
            bottom = a + b + 2;
        } else if (guesser == BOLD) {
            top = 4 * b + 1;
            bottom = 4 * a + 4 * b + 2;
        } else if (guesser == LAST) {
            top = 2 * (b / 2) + 1;
            bottom = 2 * (a / 2) + 2 * (b / 2) + 2;
        }
        return kept(quotient(WHOLE * top, bottom), 1, WHOLE - 1);
    }

    private static int ofSign(int s, int likelihoodOfOne) {
        return s == 1 ? likelihoodOfOne : WHOLE - likelihoodOfOne;
    }

    /** BITS of a likelihood. */
    private static int bitsOf(int p) {
        int greatest = 15;
        for (int place = 15; place > 0 && (p >> place) == 0; place--) greatest = place - 1;
        int behind = greatest >= 4 ? p >> (greatest - 4) : p << (4 - greatest);
        return 16 * (16 - greatest) - (behind & 15);
    }

    /**
     * The NODES with COUNTS and WEIGHTS. What the NODES of the present PAST
     * guess is worked out as soon as the PAST is known, since a coming SIGN
     * has to be measured by the guesses ahead of it.
     */
    private static final class Pasts {
        final int[] zeros = new int[NODES];
        final int[] ones = new int[NODES];
        final int[] weights = new int[NODES];
        final int[] paidAlone = new int[NODES];
        final int[] owns = new int[LEVELS];
        final int[] guesses = new int[LEVELS];
        int depth = FIRST_DEPTH;
        int guesser = FIRST_GUESSER;
        int past = 0;

        Pasts() {
            begin(FIRST_DEPTH, FIRST_GUESSER);
        }

        void begin(int newDepth, int newGuesser) {
            depth = kept(newDepth, 0, MOST_DEPTH);
            guesser = kept(newGuesser, 0, MOST_GUESSER);
            past = 0;
            for (int node = nodeOf(0, 0); node < (2 << depth); node++) {
                zeros[node] = 0;
                ones[node] = 0;
                weights[node] = HALF;
                paidAlone[node] = 0;
            }
            lookAhead();
        }

        boolean has(int level, int p) {
            return within(level, 0, depth) && within(p, 0, (1 << level) - 1);
        }

        int next() {
            return guesses[0];
        }

        /** A SIGN comes. */
        void take(int s) {
            for (int level = 0; level <= depth; level++) {
                int node = nodeOf(level, past);
                paidAlone[node] += bitsOf(ofSign(s, owns[level]));
                if (level < depth) weighAnew(node, level, s);
                tally(node, s);
            }
            past = ((past << 1) | s) & ((1 << MOST_DEPTH) - 1);
            lookAhead();
        }

        private void lookAhead() {
            for (int level = depth; level >= 0; level--) {
                int node = nodeOf(level, past);
                owns[level] = opinion(guesser, zeros[node], ones[node]);
                guesses[level] = level < depth ? mix(node, level) : owns[level];
            }
        }

        private int mix(int node, int level) {
            long weight = weights[node];
            long both = weight * owns[level] + (WHOLE - weight) * guesses[level + 1];
            return kept(both / WHOLE, 1, WHOLE - 1);
        }

        private void weighAnew(int node, int level, int s) {
            long weight = weights[node];
            long alone = weight * ofSign(s, owns[level]);
            long byChild = (WHOLE - weight) * ofSign(s, guesses[level + 1]);
            weights[node] = kept(quotient(WHOLE * alone, alone + byChild), LEAST_WEIGHT, MOST_WEIGHT);
        }

        private void tally(int node, int s) {
            if (s == 1) ones[node]++;
            else zeros[node]++;
            if (zeros[node] > MOST_COUNT || ones[node] > MOST_COUNT) {
                zeros[node] /= 2;
                ones[node] /= 2;
            }
        }
    }

    /** THE ROW, with the NODES it has made and what was guessed and paid on the way. */
    private static final class Row {
        final int[] signs = new int[MOST_SIGNS];
        final int[] foretold = new int[MOST_SIGNS];
        final int[] paid = new int[MOST_SIGNS];
        final Pasts pasts = new Pasts();
        int length = 0;
        int paidInAll = 0;

        boolean has(int k) {
            return within(k, 0, length - 1);
        }

        int put(int s) {
            if (!within(length, 0, MOST_SIGNS - 1)) return 0;
            signs[length] = s;
            foretold[length] = pasts.next();
            paid[length] = bitsOf(ofSign(s, pasts.next()));
            paidInAll += paid[length];
            pasts.take(s);
            length++;
            return paid[length - 1];
        }

        /** The first SIGNS, as many as left: halved COUNTS can't be taken back singly, so all of them come anew. */
        void comeAnew(int left, int depth, int guesser) {
            int all = kept(left, 0, MOST_SIGNS);
            length = 0;
            paidInAll = 0;
            pasts.begin(depth, guesser);
            for (int i = 0; i < all; i++) put(signs[i]);
        }

        /** COST by other NODES, which are those of this row then. */
        int priceBy(Pasts others, int depth, int guesser) {
            others.begin(depth, guesser);
            int price = 0;
            for (int i = 0; i < length; i++) {
                price += bitsOf(ofSign(signs[i], others.next()));
                others.take(signs[i]);
            }
            return price;
        }
    }

    /**
     * DEPTH and GUESSER of the least COST. It keeps the row that it judged:
     * the three questions about one row mostly come together, and each would
     * let the row come 28 times.
     */
    private static final class Contest {
        final int[] judged = new int[MOST_SIGNS];
        int length = 0;
        int depth = 0;
        int guesser = 0;
        int price = 0;

        void judge(Row row, Pasts spare) {
            if (isJudged(row)) return;
            for (int d = 0; d <= MOST_DEPTH; d++) {
                for (int g = 0; g <= MOST_GUESSER; g++) {
                    int other = row.priceBy(spare, d, g);
                    if ((d == 0 && g == 0) || other < price) {
                        depth = d;
                        guesser = g;
                        price = other;
                    }
                }
            }
            length = row.length;
            for (int i = 0; i < length; i++) judged[i] = row.signs[i];
        }

        private boolean isJudged(Row row) {
            if (length != row.length) return false;
            for (int i = 0; i < length; i++) {
                if (judged[i] != row.signs[i]) return false;
            }
            return true;
        }
    }

    /** BEST TREE. */
    private static final class BestTree {
        final int[] prices = new int[NODES];
        final int[] kinds = new int[NODES];
        int leaves = 0;
        int deepest = 0;

        void grow(Pasts pasts) {
            for (int level = pasts.depth; level >= 0; level--) {
                for (int p = 0; p < (1 << level); p++) weigh(pasts, level, p);
            }
            leaves = 0;
            deepest = 0;
            for (int level = 0; level <= pasts.depth; level++) {
                for (int p = 0; p < (1 << level); p++) settle(level, p);
            }
        }

        int price() {
            return prices[nodeOf(0, 0)];
        }

        private void weigh(Pasts pasts, int level, int p) {
            int node = nodeOf(level, p);
            prices[node] = pasts.paidAlone[node];
            kinds[node] = LEAF;
            if (level >= pasts.depth) return;
            int parted = prices[nodeOf(level + 1, p)] + prices[nodeOf(level + 1, p | (1 << level))];
            if (parted < prices[node]) {
                prices[node] = parted;
                kinds[node] = PARTED;
            }
            prices[node] += NODE_COST;
        }

        private void settle(int level, int p) {
            int node = nodeOf(level, p);
            if (level > 0 && kinds[nodeOf(level - 1, p)] != PARTED) kinds[node] = ABSENT;
            if (kinds[node] != LEAF) return;
            leaves++;
            deepest = level;
        }
    }

    /** WRITING and READING. */
    private static final class Writing {
        final int[] bytes = new int[MOST_BYTES];
        int length = 0;
        long low = 0L;
        long range = FULL_RANGE;
        long code = 0L;
        int nextByte = 0;

        void write(Row row) {
            length = 0;
            low = 0L;
            range = FULL_RANGE;
            for (int i = 0; i < row.length; i++) writeSign(row.signs[i], row.foretold[i]);
            for (int i = 0; i < BYTES_AT_END; i++) sendByte();
        }

        int byteAt(int k) {
            return within(k, 0, length - 1) ? bytes[k] : 0;
        }

        void spoil(int k, int x) {
            if (within(k, 0, length - 1)) bytes[k] ^= x;
        }

        /** How many SIGNS are as in the row, when the bytes are read by the row's DEPTH and GUESSER. */
        int readAgain(Row row, Pasts spare) {
            spare.begin(row.pasts.depth, row.pasts.guesser);
            nextByte = 0;
            code = 0L;
            range = FULL_RANGE;
            for (int i = 0; i < 4; i++) fetchByte();
            int alike = 0;
            for (int i = 0; i < row.length; i++) {
                int s = readSign(spare.next());
                spare.take(s);
                if (s == row.signs[i]) alike++;
            }
            return alike;
        }

        private void writeSign(int s, int foretold) {
            long part = partOfOne(foretold);
            if (s == 1) {
                range = part;
            } else {
                low += part;
                range -= part;
            }
            for (int i = 0; i < MOST_OUT && range < LEAST_RANGE; i++) {
                sendByte();
                range *= 256L;
            }
        }

        private int readSign(int foretold) {
            long part = partOfOne(foretold);
            int s = code < part ? 1 : 0;
            if (s == 1) {
                range = part;
            } else {
                code -= part;
                range -= part;
            }
            for (int i = 0; i < MOST_OUT && range < LEAST_RANGE; i++) {
                fetchByte();
                range *= 256L;
            }
            return s;
        }

        private long partOfOne(int foretold) {
            return range / WHOLE * foretold;
        }

        private void sendByte() {
            long top = low / LEAST_RANGE;
            if (top > 255L) carry();
            if (within(length, 0, MOST_BYTES - 1)) {
                bytes[length] = (int) (top & 255L);
                length++;
            }
            low = low % LEAST_RANGE * 256L;
        }

        private void carry() {
            for (int i = length - 1; i >= 0; i--) {
                bytes[i] = (bytes[i] + 1) & 255;
                if (bytes[i] != 0) break;
            }
        }

        private void fetchByte() {
            code = code * 256L + byteAt(nextByte);
            nextByte++;
        }
    }

    /** THE TEXT, and the SIGNS it tells. */
    private static final class Text {
        final int[] bytes = new int[MOST_TEXT];
        final int[] signs = new int[MOST_SIGNS];
        int length = 0;
        int found = 0;
        int fault = NONE;
        int room = 0;
        int cursor = 0;
        int groupStart = NONE;

        int append(int c) {
            if (within(length, 0, MOST_TEXT - 1)) {
                bytes[length] = c;
                length++;
            }
            return length;
        }

        void read(int newRoom) {
            room = kept(newRoom, 0, MOST_SIGNS);
            found = 0;
            fault = NONE;
            cursor = 0;
            groupStart = NONE;
            for (int turn = 0; turn < MOST_TEXT && fault == NONE; turn++) {
                skipBlanks();
                if (cursor >= length) break;
                readPiece();
            }
            if (fault == NONE && groupStart != NONE) fault = length;
        }

        private void readPiece() {
            int c = here();
            if (c == '0' || c == '1') {
                readSigns(c - '0');
            } else if (c == '(' && groupStart == NONE) {
                groupStart = found;
                cursor++;
            } else if (c == ')' && groupStart != NONE && found > groupStart) {
                readGroupEnd();
            } else {
                fault = cursor;
            }
        }

        /**
         * Any number is 1 at least, so that without room for one SIGN the sign is the fault, whatever stands behind
         * its x; with room for one, how many SIGNS there are is not known ahead of the number.
         */
        private void readSigns(int s) {
            int place = cursor;
            if (found >= room) {
                fault = place;
                return;
            }
            cursor++;
            skipBlanks();
            int times = here() == 'x' ? readTimes() : 1;
            if (fault != NONE) return;
            if (found + times > room) {
                fault = place;
                return;
            }
            for (int i = 0; i < times; i++) addSign(s);
        }

        /** All of the group has found room once, so that only the number can make them too many. */
        private void readGroupEnd() {
            int place = cursor;
            cursor++;
            skipBlanks();
            if (here() != 'x') {
                fault = cursor;
                return;
            }
            int times = readTimes();
            if (fault != NONE) return;
            int start = Math.max(0, groupStart);
            int size = found - start;
            if (start + size * times > room) {
                fault = place;
                return;
            }
            for (int i = 0; i < size * (times - 1); i++) addSign(signAt(start + i));
            groupStart = NONE;
        }

        /** The number behind an x. */
        private int readTimes() {
            cursor++;
            skipBlanks();
            int first = cursor;
            int times = 0;
            for (int turn = 0; turn < MOST_TEXT && within(here(), '0', '9'); turn++) {
                // Longer numbers are refused by their length, their value must only not run over.
                times = Math.min(1000, times * 10 + here() - '0');
                cursor++;
            }
            if (!within(cursor - first, 1, 2) || times < 1) fault = first;
            return times;
        }

        private void skipBlanks() {
            for (int turn = 0; turn < MOST_TEXT && here() == ' '; turn++) cursor++;
        }

        private int here() {
            return cursor >= 0 && cursor < length && cursor < MOST_TEXT ? bytes[cursor] : NONE;
        }

        private int signAt(int i) {
            return within(i, 0, found - 1) ? signs[i] : 0;
        }

        private void addSign(int s) {
            if (!within(found, 0, MOST_SIGNS - 1)) return;
            signs[found] = s;
            found++;
        }
    }

    /** THE ROW, DEPTH and GUESSER as they were once. */
    private static final class State {
        final int[] signs = new int[MOST_SIGNS];
        int length = 0;
        int depth = 0;
        int guesser = 0;

        void copyFrom(Row row) {
            length = row.length;
            depth = row.pasts.depth;
            guesser = row.pasts.guesser;
            for (int i = 0; i < length; i++) signs[i] = row.signs[i];
        }

        void copySignsTo(Row row) {
            for (int i = 0; i < length; i++) row.signs[i] = signs[i];
        }
    }

    /** STATES in a ring, so that the newest one takes the oldest one's place. */
    private static final class States {
        final State[] ring = new State[MOST_STATES];
        int size = 0;
        int top = 0;

        States() {
            for (int i = 0; i < MOST_STATES; i++) ring[i] = new State();
        }

        void keep(Row row) {
            top = top + 1 < MOST_STATES ? top + 1 : 0;
            size = Math.min(MOST_STATES, size + 1);
            ring[top].copyFrom(row);
        }

        State release() {
            State newest = ring[top];
            top = top > 0 ? top - 1 : MOST_STATES - 1;
            size = Math.max(0, size - 1);
            return newest;
        }
    }
}
