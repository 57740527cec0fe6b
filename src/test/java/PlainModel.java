import java.util.ArrayList;
import java.util.Arrays;
import java.util.List;

/**
 * The document told a second time, as naively as may be, to be held against ClaimChains:
 * values one by one, chains and walks by trying all, boxes as Java's own arrays of Java's own
 * classes, whose exceptions are the FAULTS. It shares no code with the class.
 */
final class PlainModel {
    static final int UNKNOWN = -1, OUTSIDE = -2, STATE = -3, FULL = -4, NONE = -9;

    static class Term {
        final int number, kind, leafNumber;
        final List<Term> parts;

        Term(int number, int kind, int leafNumber, List<Term> parts) {
            this.number = number;
            this.kind = kind;
            this.leafNumber = leafNumber;
            this.parts = parts;
        }
    }

    static class Leaf extends Term {
        Leaf(int number, int kind, int leafNumber) {
            super(number, kind, leafNumber, List.of());
        }
    }

    static final class Variable extends Leaf {
        Variable(int number, int leafNumber) {
            super(number, 1, leafNumber);
        }
    }

    static final class Gate extends Term {
        Gate(int number, int kind, List<Term> parts) {
            super(number, kind, NONE, parts);
        }
    }

    record Lemma(boolean[] set, int cube) { }

    private final List<Term> terms = new ArrayList<>();
    private Term startsTerm, claimTerm;
    private final Term[] nextTerms = new Term[4];
    private final List<Lemma> lemmas = new ArrayList<>();
    private final Term[][] boxes = new Term[4][];
    private int fault = 0;

    // ---- 1 terms

    private boolean has(int t) {
        return 0 <= t && t < terms.size();
    }

    private int come(int kind, int leafNumber, List<Term> parts) {
        for (Term t : terms) {
            if (t.kind == kind && t.leafNumber == leafNumber && t.parts.equals(parts)) return t.number;
        }
        int number = terms.size();
        if (number == 40) return FULL;
        if (kind == 1) terms.add(new Variable(number, leafNumber));
        else if (kind < 3) terms.add(new Leaf(number, kind, leafNumber));
        else if (kind < 7) terms.add(new Gate(number, kind, parts));
        else terms.add(new Term(number, kind, NONE, parts));
        return number;
    }

    int leaf(int kind, int n) {
        if (kind < 0 || kind > 2) return OUTSIDE;
        if (n < 0 || n > (kind == 1 ? 3 : 1)) return OUTSIDE;
        return come(kind, n, List.of());
    }

    int gate(int kind, int a, int b) {
        if (kind < 3 || kind > 6) return OUTSIDE;
        if (!has(a)) return UNKNOWN;
        if (kind == 3) return come(3, NONE, List.of(terms.get(a)));
        if (!has(b)) return UNKNOWN;
        return come(kind, NONE, List.of(terms.get(a), terms.get(b)));
    }

    int choice(int a, int b, int c) {
        if (!has(a)) return UNKNOWN;
        if (!has(b)) return UNKNOWN;
        if (!has(c)) return UNKNOWN;
        return come(7, NONE, List.of(terms.get(a), terms.get(b), terms.get(c)));
    }

    /** The terms that a term is made of, itself too. */
    private boolean[] within(Term t) {
        boolean[] in = new boolean[terms.size()];
        in[t.number] = true;
        for (int k = t.number; k >= 0; k--) {
            if (!in[k]) continue;
            for (Term part : terms.get(k).parts) in[part.number] = true;
        }
        return in;
    }

    private int named(Term t, int kind) {
        int set = 0;
        boolean[] in = within(t);
        for (Term u : terms) {
            if (u.number < in.length && in[u.number] && u.kind == kind) set |= 1 << u.leafNumber;
        }
        return set;
    }

    private int deep(Term t) {
        int[] depth = new int[t.number + 1];
        for (int k = 0; k <= t.number; k++) {
            for (Term part : terms.get(k).parts) depth[k] = Math.max(depth[k], 1 + depth[part.number]);
        }
        return depth[t.number];
    }

    int ofTerm(int t, int what) {
        if (!has(t)) return UNKNOWN;
        if (what < 0 || what > 6) return OUTSIDE;
        Term term = terms.get(t);
        if (what == 0) return term.kind;
        if (what == 1 && term.kind < 3) return term.leafNumber;
        if (what <= 3) return what <= term.parts.size() ? term.parts.get(what - 1).number : NONE;
        if (what == 4) return named(term, 1);
        if (what == 5) return named(term, 2);
        return deep(term);
    }

    long leaves(int t) {
        if (!has(t)) return Long.MIN_VALUE;
        long[] count = new long[t + 1];
        for (int k = 0; k <= t; k++) {
            if (terms.get(k).parts.isEmpty()) count[k] = 1;
            for (Term part : terms.get(k).parts) count[k] = Math.addExact(count[k], count[part.number]);
        }
        return count[t];
    }

    private boolean isOne(Term t, int state, int row) {
        boolean[] value = new boolean[t.number + 1];
        for (int k = 0; k <= t.number; k++) {
            Term u = terms.get(k);
            boolean[] of = new boolean[3];
            for (int p = 0; p < u.parts.size(); p++) of[p] = value[u.parts.get(p).number];
            if (u.kind == 0) value[k] = u.leafNumber == 1;
            if (u.kind == 1) value[k] = (state & 1 << u.leafNumber) != 0;
            if (u.kind == 2) value[k] = (row & 1 << u.leafNumber) != 0;
            if (u.kind == 3) value[k] = !of[0];
            if (u.kind == 4) value[k] = of[0] && of[1];
            if (u.kind == 5) value[k] = of[0] || of[1];
            if (u.kind == 6) value[k] = of[0] != of[1];
            if (u.kind == 7) value[k] = of[0] ? of[1] : of[2];
        }
        return value[t.number];
    }

    int value(int t, int state, int row) {
        if (!has(t)) return UNKNOWN;
        if (state < 0 || state > 15 || row < 0 || row > 3) return OUTSIDE;
        return isOne(terms.get(t), state, row) ? 1 : 0;
    }

    int holds(int t, int row) {
        if (!has(t)) return UNKNOWN;
        if (row < 0 || row > 3) return OUTSIDE;
        int set = 0;
        for (int s = 0; s < 16; s++) set |= value(t, s, row) << s;
        return set;
    }

    int alike(int a, int b) {
        if (!has(a) || !has(b)) return UNKNOWN;
        for (int row = 0; row < 4; row++) {
            for (int s = 0; s < 16; s++) {
                if (value(a, s, row) != value(b, s, row)) return 0;
            }
        }
        return 1;
    }

    // ---- 2 the machine

    private static int numberOf(Term t) {
        return t == null ? NONE : t.number;
    }

    int starts(int t) {
        if (!has(t)) return UNKNOWN;
        if (named(terms.get(t), 2) != 0) return OUTSIDE;
        int was = numberOf(startsTerm);
        startsTerm = terms.get(t);
        lemmas.clear();
        return was;
    }

    int next(int v, int t) {
        if (v < 0 || v > 3) return UNKNOWN;
        if (!has(t)) return UNKNOWN;
        int was = numberOf(nextTerms[v]);
        nextTerms[v] = terms.get(t);
        lemmas.clear();
        return was;
    }

    int claim(int t) {
        if (!has(t)) return UNKNOWN;
        if (named(terms.get(t), 2) != 0) return OUTSIDE;
        int was = numberOf(claimTerm);
        claimTerm = terms.get(t);
        lemmas.clear();
        return was;
    }

    private boolean isStart(int s) {
        return startsTerm == null || isOne(startsTerm, s, 0);
    }

    private boolean isBroken(int s) {
        return claimTerm != null && !isOne(claimTerm, s, 0);
    }

    int step(int state, int row) {
        if (state < 0 || state > 15 || row < 0 || row > 3) return OUTSIDE;
        int to = 0;
        for (int v = 0; v < 4; v++) {
            boolean one = nextTerms[v] == null ? (state & 1 << v) != 0 : isOne(nextTerms[v], state, row);
            if (one) to |= 1 << v;
        }
        return to;
    }

    int before(int state) {
        if (state < 0 || state > 15) return OUTSIDE;
        int set = 0;
        for (int s = 0; s < 16; s++) {
            for (int row = 0; row < 4; row++) {
                if (step(s, row) == state) set |= 1 << s;
            }
        }
        return set;
    }

    /** Steps of all states with all rows: made once a question, as terms are slow here. */
    private int[][] allSteps() {
        int[][] to = new int[16][4];
        for (int s = 0; s < 16; s++) {
            for (int row = 0; row < 4; row++) to[s][row] = step(s, row);
        }
        return to;
    }

    private int[] allDistances() {
        int[][] to = allSteps();
        int[] far = new int[16];
        for (int s = 0; s < 16; s++) far[s] = isStart(s) ? 0 : 99;
        for (int round = 0; round < 16; round++) {
            for (int s = 0; s < 16; s++) {
                for (int row = 0; row < 4; row++) far[to[s][row]] = Math.min(far[to[s][row]], far[s] + 1);
            }
        }
        for (int s = 0; s < 16; s++) {
            if (far[s] >= 99) far[s] = NONE;
        }
        return far;
    }

    int distance(int state) {
        if (state < 0 || state > 15) return OUTSIDE;
        return allDistances()[state];
    }

    int met(int what) {
        if (what < 0 || what > 5) return OUTSIDE;
        int[] far = allDistances();
        int count = 0, greatest = NONE, set = 0, starts = 0, broken = 0;
        for (int s = 0; s < 16; s++) {
            if (far[s] != NONE) {
                count++;
                set |= 1 << s;
                greatest = Math.max(greatest, far[s]);
            }
            if (isStart(s)) starts |= 1 << s;
            if (isBroken(s)) broken |= 1 << s;
        }
        int[] theWay = what == 3 ? theWay() : null;
        int length = theWay == null ? NONE : theWay.length - 1;
        return new int[] {count, greatest, set, length, starts, broken}[what];
    }

    /** THE WAY: its START, then its ROWS; null: there is none. */
    private int[] theWay() {
        int[][] to = allSteps();
        boolean[] broken = new boolean[16];
        for (int s = 0; s < 16; s++) broken[s] = isBroken(s);
        for (int length = 0; length < 16; length++) {
            boolean[][] dead = new boolean[16][length + 1];
            for (int s = 0; s < 16; s++) {
                int[] way = new int[length + 1];
                way[0] = s;
                if (isStart(s) && goOn(way, 1, s, to, broken, dead)) return way;
            }
        }
        return null;
    }

    private boolean goOn(int[] way, int k, int state, int[][] to, boolean[] broken, boolean[][] dead) {
        int left = way.length - k;
        if (left == 0) return broken[state];
        if (dead[state][left]) return false;
        for (int row = 0; row < 4; row++) {
            way[k] = row;
            if (goOn(way, k + 1, to[state][row], to, broken, dead)) return true;
        }
        dead[state][left] = true;
        return false;
    }

    private int behind(int start, int[] way, int steps) {
        int state = start;
        for (int k = 0; k < steps; k++) state = step(state, way[k + 1]);
        return state;
    }

    int way(int k, int what) {
        if (k < 0 || k > 15 || what < 0 || what > 1) return OUTSIDE;
        int[] way = theWay();
        if (way == null) return NONE;
        int steps = way.length - 1;
        if (what == 0) return k <= steps ? behind(way[0], way, k) : NONE;
        return k < steps ? way[k + 1] : NONE;
    }

    int loose(int k) {
        int[] way = theWay();
        if (way == null) return STATE;
        int steps = way.length - 1;
        if (k < -1 || k >= steps) return OUTSIDE;
        int set = 0;
        for (int n = 0; n < (k == -1 ? 4 : 2); n++) {
            int[] other = way.clone();
            other[k + 1] ^= 1 << n;
            boolean isOne = isStart(other[0]) && isBroken(behind(other[0], other, steps));
            if (isOne) set |= 1 << n;
        }
        return set;
    }

    int cone(int what) {
        if (what < 0 || what > 1) return OUTSIDE;
        int cone = claimTerm == null ? 0 : named(claimTerm, 1);
        boolean grows = true;
        while (grows) {
            int was = cone;
            for (int v = 0; v < 4; v++) {
                if ((cone & 1 << v) != 0 && nextTerms[v] != null) cone |= named(nextTerms[v], 1);
            }
            grows = cone != was;
        }
        if (what == 0) return cone;
        int inputs = 0;
        for (int v = 0; v < 4; v++) {
            if ((cone & 1 << v) != 0 && nextTerms[v] != null) inputs |= named(nextTerms[v], 2);
        }
        return inputs;
    }

    // ---- 3 chains, lemmas

    int clear(int k) {
        if (k < 0 || k > 16) return OUTSIDE;
        int[] far = allDistances();
        for (int s = 0; s < 16; s++) {
            if (isBroken(s) && far[s] != NONE && far[s] < k) return 0;
        }
        return 1;
    }

    private boolean inAllLemmas(int s) {
        for (Lemma lemma : lemmas) {
            if (!lemma.set()[s]) return false;
        }
        return true;
    }

    private boolean[] good() {
        boolean[] good = new boolean[16];
        for (int s = 0; s < 16; s++) good[s] = !isBroken(s) && inAllLemmas(s);
        return good;
    }

    private boolean[] brokenInAllLemmas() {
        boolean[] set = new boolean[16];
        for (int s = 0; s < 16; s++) set[s] = isBroken(s) && inAllLemmas(s);
        return set;
    }

    /** The FIRST CHAIN: [0] its STATES, [1] its ROWS; null: there is none. */
    private int[][] firstChain(int k) {
        int[][] chain = {new int[k + 1], new int[k]};
        int[][] to = allSteps();
        boolean[] good = good(), last = brokenInAllLemmas();
        for (int s = 0; s < 16; s++) {
            chain[0][0] = s;
            if (chainOn(chain, 0, k, to, good, last)) return chain;
        }
        return null;
    }

    private boolean chainOn(int[][] chain, int i, int k, int[][] to, boolean[] good, boolean[] last) {
        int state = chain[0][i];
        for (int j = 0; j < i; j++) {
            if (chain[0][j] == state) return false;
        }
        if (i == k) return last[state];
        if (!good[state]) return false;
        for (int row = 0; row < 4; row++) {
            chain[1][i] = row;
            chain[0][i + 1] = to[state][row];
            if (chainOn(chain, i + 1, k, to, good, last)) return true;
        }
        return false;
    }

    int shut(int k) {
        if (k < 0 || k > 8) return OUTSIDE;
        return firstChain(k) == null ? 1 : 0;
    }

    int settle(int limit) {
        if (limit < 0 || limit > 8) return OUTSIDE;
        for (int k = 0; k <= limit; k++) {
            if (clear(k) == 0) {
                int least = 0;
                while (clear(least + 1) == 1) least++;
                return 100 + least;
            }
            if (shut(k) == 1) return k;
        }
        return NONE;
    }

    int chain(int k, int i, int what) {
        if (k < 0 || k > 8 || i < 0 || i > 8 || what < 0 || what > 1) return OUTSIDE;
        int[][] chain = firstChain(k);
        if (chain == null || i >= chain[what].length) return NONE;
        return chain[what][i];
    }

    private boolean[] weakOnes() {
        boolean[] good = good(), last = brokenInAllLemmas(), weak = new boolean[16];
        for (int s = 0; s < 16; s++) {
            for (int row = 0; row < 4; row++) weak[s] |= good[s] && last[step(s, row)];
        }
        return weak;
    }

    private static int told(boolean[] set) {
        int bits = 0;
        for (int s = 0; s < 16; s++) bits |= set[s] ? 1 << s : 0;
        return bits;
    }

    int weak(int what) {
        if (what < 0 || what > 1) return OUTSIDE;
        return told(what == 0 ? weakOnes() : good());
    }

    private boolean fits(boolean[] set) {
        boolean[] good = good();
        for (int s = 0; s < 16; s++) {
            if (isStart(s) && !set[s]) return false;
            for (int row = 0; row < 4; row++) {
                if (good[s] && set[s] && !set[step(s, row)]) return false;
            }
        }
        return true;
    }

    private static boolean[] outsideOfCube(int names, int part) {
        boolean[] set = new boolean[16];
        for (int s = 0; s < 16; s++) set[s] = (s & names) != part;
        return set;
    }

    int strengthen() {
        boolean[] weak = weakOnes();
        if (told(weak) == 0) return NONE;
        int taken = -1;
        for (int s = 15; s >= 0; s--) {
            if (weak[s] && fits(outsideOfCube(15, s))) taken = s;
        }
        if (taken < 0) return STATE;
        if (lemmas.size() == 8) return FULL;
        int names = 15;
        for (int name : new int[] {1, 2, 4, 8}) {
            if (fits(outsideOfCube(names - name, taken & (names - name)))) names -= name;
        }
        int cube = names * 16 + (taken & names);
        lemmas.add(new Lemma(outsideOfCube(names, taken & names), cube));
        return cube;
    }

    private int newLemma(boolean[] set) {
        if (!fits(set)) return STATE;
        if (lemmas.size() == 8) return FULL;
        lemmas.add(new Lemma(set, NONE));
        return lemmas.size() - 1;
    }

    int lemma(int t) {
        if (!has(t)) return UNKNOWN;
        if (named(terms.get(t), 2) != 0) return OUTSIDE;
        boolean[] set = new boolean[16];
        for (int s = 0; s < 16; s++) set[s] = isOne(terms.get(t), s, 0);
        return newLemma(set);
    }

    int block(int box) {
        fault = 0;
        if (box < 0 || box > 3) return UNKNOWN;
        boolean[] set = new boolean[16];
        try {
            for (Term t : boxes[box]) {
                if (named(t, 2) != 0) return OUTSIDE;
                for (int s = 0; s < 16; s++) set[s] |= !isOne(t, s, 0);
            }
        } catch (NullPointerException e) {
            return faulted(1);
        }
        return newLemma(set);
    }

    int back() {
        if (lemmas.isEmpty()) return STATE;
        lemmas.remove(lemmas.size() - 1);
        return lemmas.size();
    }

    int ofLemma(int k, int what) {
        if (k < 0 || k >= lemmas.size()) return UNKNOWN;
        if (what < 0 || what > 2) return OUTSIDE;
        Lemma lemma = lemmas.get(k);
        if (what == 2) return lemma.cube();
        return what == 0 ? told(lemma.set()) : Integer.bitCount(told(lemma.set()));
    }

    int closed() {
        boolean[] good = good();
        for (int s = 0; s < 16; s++) {
            if (isStart(s) && !good[s]) return 0;
        }
        return told(weakOnes()) == 0 ? 1 : 0;
    }

    // ---- 4 chances

    private int countWrong(int state, int k, int[][] to, boolean[] broken) {
        if (broken[state]) return 1 << 2 * k;
        if (k == 0) return 0;
        int count = 0;
        for (int row = 0; row < 4; row++) count += countWrong(to[state][row], k - 1, to, broken);
        return count;
    }

    int chance(int k) {
        if (k < 0 || k > 8) return OUTSIDE;
        int[][] to = allSteps();
        boolean[] broken = new boolean[16];
        for (int s = 0; s < 16; s++) broken[s] = isBroken(s);
        int wrong = 0, all = 0;
        for (int s = 0; s < 16; s++) {
            if (!isStart(s)) continue;
            wrong += countWrong(s, k, to, broken);
            all += 1 << 2 * k;
        }
        if (all == 0) return STATE;
        // Both are below 2 to the 24th, so that the one division is all that rounds.
        return Float.floatToIntBits((float) wrong / (float) all);
    }

    long mean() {
        int sum = 0, count = 0;
        for (int far : allDistances()) {
            if (far == NONE) continue;
            sum += far;
            count++;
        }
        return count == 0 ? Long.MIN_VALUE : Double.doubleToLongBits((double) sum / count);
    }

    // ---- 5 boxes

    private int faulted(int which) {
        fault = which;
        return -10 - which;
    }

    private int faulted(RuntimeException e) {
        if (e instanceof NullPointerException) return faulted(1);
        if (e instanceof ArrayStoreException) return faulted(2);
        if (e instanceof IndexOutOfBoundsException) return faulted(3);
        if (e instanceof NegativeArraySizeException) return faulted(4);
        throw e;
    }

    int box(int b, int sort, int n) {
        fault = 0;
        if (b < 0 || b > 3) return UNKNOWN;
        if (sort < 0 || sort > 3 || n > 8) return OUTSIDE;
        try {
            boxes[b] = sort == 0 ? new Term[n] : sort == 1 ? new Leaf[n]
                : sort == 2 ? new Variable[n] : new Gate[n];
            return 1;
        } catch (NegativeArraySizeException e) {
            return faulted(e);
        }
    }

    int lay(int b, int i, int t) {
        fault = 0;
        if (b < 0 || b > 3 || !has(t)) return UNKNOWN;
        try {
            boxes[b][i] = terms.get(t);
            return 1;
        } catch (RuntimeException e) {
            return faulted(e);
        }
    }

    int take(int b, int i) {
        fault = 0;
        if (b < 0 || b > 3) return UNKNOWN;
        try {
            return numberOf(boxes[b][i]);
        } catch (RuntimeException e) {
            return faulted(e);
        }
    }

    int same(int b, int other) {
        fault = 0;
        if (b < 0 || b > 3 || other < 0 || other > 3) return UNKNOWN;
        try {
            boxes[b] = boxes[other].clone();
            return boxes[b].length;
        } catch (RuntimeException e) {
            return faulted(e);
        }
    }

    int move(int b, int i, int other, int j, int n) {
        fault = 0;
        if (b < 0 || b > 3 || other < 0 || other > 3) return UNKNOWN;
        try {
            System.arraycopy(boxes[b], i, boxes[other], j, n);
            return n;
        } catch (RuntimeException e) {
            return faulted(e);
        }
    }

    int states(int b, int row, int how) {
        fault = 0;
        if (b < 0 || b > 3) return UNKNOWN;
        if (row < 0 || row > 3 || how < 0 || how > 1) return OUTSIDE;
        if (boxes[b] == null) return faulted(1);
        int set = 0;
        for (int s = 0; s < 16; s++) {
            boolean all = true, any = false;
            for (Term t : boxes[b]) {
                if (t == null) continue;
                all &= isOne(t, s, row);
                any |= isOne(t, s, row);
            }
            if (how == 0 ? all : any) set |= 1 << s;
        }
        return set;
    }

    int lose(int b) {
        if (b < 0 || b > 3) return UNKNOWN;
        int had = boxes[b] == null ? 0 : 1;
        boxes[b] = null;
        return had;
    }

    int fault() {
        return fault;
    }

    int many(int what) {
        if (what < 0 || what > 5) return OUTSIDE;
        if (what == 0) return terms.size();
        if (what == 1) return lemmas.size();
        if (what == 5) return (int) Arrays.stream(boxes).filter(box -> box != null).count();
        int count = 0;
        boolean[] good = good();
        for (int s = 0; s < 16; s++) {
            if (what == 2 ? isStart(s) : what == 3 ? isBroken(s) : good[s]) count++;
        }
        return count;
    }
}
