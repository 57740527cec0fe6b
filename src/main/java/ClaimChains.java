/**
 * Claims about a machine of bits: terms, the machine, chains and lemmas, walks, boxes.
 *
 * Sets of states are ints with bit s for state s. A term's values are a long with
 * bit 16 * row + state, so that all that is asked of a term is read off one number.
 */
public final class ClaimChains {
    public static final int UNKNOWN = -1, OUTSIDE = -2, STATE = -3, FULL = -4, NONE = -9;
    public static final long LOST = Long.MIN_VALUE;

    private static final int VARIABLES = 4, INPUTS = 2, STATES = 16, ROWS = 4, BOXES = 4;
    private static final int ALL_STATES = 0xFFFF;
    private static final int CONSTANT = 0, VARIABLE = 1, INPUT = 2;
    private static final int NOT = 3, BOTH = 4, EITHER = 5, UNLIKE = 6, CHOICE = 7;
    private static final int FAULT_NULL = 1, FAULT_STORE = 2, FAULT_INDEX = 3, FAULT_SIZE = 4;
    private static final int LONGEST_CHAIN = 8, LONGEST_WALK = 8, LONGEST_WAY = 15;
    private static final int[] LEAF_NUMBERS = {2, 4, 2};
    private static final long[] CONSTANT_TABLES = {0L, -1L};
    private static final long[] VARIABLE_TABLES = {
        0xAAAAAAAAAAAAAAAAL, 0xCCCCCCCCCCCCCCCCL, 0xF0F0F0F0F0F0F0F0L, 0xFF00FF00FF00FF00L};
    private static final long[] INPUT_TABLES = {0xFFFF0000FFFF0000L, 0xFFFFFFFF00000000L};

    private final Terms terms;
    private final Machine machine;
    private final Lemmas lemmas;
    private final Chains chains;
    private final Walks walks;
    private final Box[] boxes;
    private final int[] carried;
    private int latestFault;

    public ClaimChains() {
        terms = new Terms();
        machine = new Machine(terms);
        lemmas = new Lemmas(machine);
        chains = new Chains(machine, lemmas);
        walks = new Walks(machine);
        boxes = new Box[BOXES];
        for (int b = 0; b < BOXES; b++) boxes[b] = new Box();
        carried = new int[Box.MOST];
        latestFault = 0;
    }

    // ---- 1 terms

    public int leaf(int kind, int n) {
        if (kind < CONSTANT || kind > INPUT) return OUTSIDE;
        if (n < 0 || n >= LEAF_NUMBERS[kind]) return OUTSIDE;
        return terms.elderOrNew(kind, n, NONE, NONE);
    }

    public int gate(int kind, int a, int b) {
        if (kind < NOT || kind > UNLIKE) return OUTSIDE;
        if (!terms.has(a)) return UNKNOWN;
        if (kind == NOT) return terms.elderOrNew(NOT, a, NONE, NONE);
        if (!terms.has(b)) return UNKNOWN;
        return terms.elderOrNew(kind, a, b, NONE);
    }

    public int choice(int a, int b, int c) {
        if (!terms.has(a) || !terms.has(b) || !terms.has(c)) return UNKNOWN;
        return terms.elderOrNew(CHOICE, a, b, c);
    }

    public int ofTerm(int t, int what) {
        if (!terms.has(t)) return UNKNOWN;
        switch (what) {
            case 0: return terms.kinds[t];
            case 1: return terms.firsts[t];
            case 2: return terms.seconds[t];
            case 3: return terms.thirds[t];
            case 4: return terms.variables[t];
            case 5: return terms.inputs[t];
            case 6: return terms.depths[t];
            default: return OUTSIDE;
        }
    }

    public long leaves(int t) {
        return terms.has(t) ? terms.leafCounts[t] : LOST;
    }

    public int value(int t, int state, int row) {
        if (!terms.has(t)) return UNKNOWN;
        if (!isState(state) || !isRow(row)) return OUTSIDE;
        return terms.trueStates(t, row) >> state & 1;
    }

    public int holds(int t, int row) {
        if (!terms.has(t)) return UNKNOWN;
        if (!isRow(row)) return OUTSIDE;
        return terms.trueStates(t, row);
    }

    public int alike(int a, int b) {
        if (!terms.has(a) || !terms.has(b)) return UNKNOWN;
        return bit(terms.tables[a] == terms.tables[b]);
    }

    // ---- 2 the machine

    public int starts(int t) {
        if (!terms.has(t)) return UNKNOWN;
        if (terms.inputs[t] != 0) return OUTSIDE;
        lemmas.forgetAll();
        return machine.tellStarts(t);
    }

    public int next(int v, int t) {
        if (v < 0 || v >= VARIABLES || !terms.has(t)) return UNKNOWN;
        lemmas.forgetAll();
        return machine.tellNext(v, t);
    }

    public int claim(int t) {
        if (!terms.has(t)) return UNKNOWN;
        if (terms.inputs[t] != 0) return OUTSIDE;
        lemmas.forgetAll();
        return machine.tellClaim(t);
    }

    public int step(int state, int row) {
        if (!isState(state) || !isRow(row)) return OUTSIDE;
        return machine.target(state, row);
    }

    public int before(int state) {
        if (!isState(state)) return OUTSIDE;
        return machine.sources(1 << state);
    }

    public int distance(int state) {
        if (!isState(state)) return OUTSIDE;
        return machine.distances[state];
    }

    public int met(int what) {
        switch (what) {
            case 0: return Integer.bitCount(machine.metStates);
            case 1: return machine.greatestDistance();
            case 2: return machine.metStates;
            case 3: return machine.wayLength;
            case 4: return machine.startStates;
            case 5: return machine.brokenStates;
            default: return OUTSIDE;
        }
    }

    public int way(int k, int what) {
        if (k < 0 || k > LONGEST_WAY || what < 0 || what > 1) return OUTSIDE;
        if (what == 0) return k <= machine.wayLength ? machine.wayStates[k] : NONE;
        return k < machine.wayLength ? machine.wayRows[k] : NONE;
    }

    public int loose(int k) {
        if (machine.wayLength == NONE) return STATE;
        if (k < -1 || k >= machine.wayLength) return OUTSIDE;
        return k == -1 ? machine.looseInStart() : machine.looseInRow(k);
    }

    public int cone(int what) {
        if (what < 0 || what > 1) return OUTSIDE;
        int cone = machine.coneVariables();
        return what == 0 ? cone : machine.inputsOf(cone);
    }

    // ---- 3 chains, lemmas

    public int clear(int k) {
        if (k < 0 || k > STATES) return OUTSIDE;
        return bit(machine.isClear(k));
    }

    public int shut(int k) {
        if (k < 0 || k > LONGEST_CHAIN) return OUTSIDE;
        return bit(!chains.find(k));
    }

    public int settle(int limit) {
        if (limit < 0 || limit > LONGEST_CHAIN) return OUTSIDE;
        for (int k = 0; k <= limit; k++) {
            if (!machine.isClear(k)) return 100 + machine.leastBrokenDistance();
            if (!chains.find(k)) return k;
        }
        return NONE;
    }

    public int chain(int k, int i, int what) {
        if (k < 0 || k > LONGEST_CHAIN || i < 0 || i > LONGEST_CHAIN) return OUTSIDE;
        if (what < 0 || what > 1) return OUTSIDE;
        int places = what == 0 ? k + 1 : k;
        if (i >= places || !chains.find(k)) return NONE;
        return what == 0 ? chains.path[i] : chains.rows[i];
    }

    public int weak(int what) {
        if (what < 0 || what > 1) return OUTSIDE;
        return what == 0 ? lemmas.weakStates() : lemmas.goodStates();
    }

    public int strengthen() {
        return lemmas.addByStrengthening();
    }

    public int lemma(int t) {
        if (!terms.has(t)) return UNKNOWN;
        if (terms.inputs[t] != 0) return OUTSIDE;
        return lemmas.addIfFitting(terms.trueStates(t, 0));
    }

    public int block(int box) {
        latestFault = 0;
        if (!isBox(box)) return UNKNOWN;
        Box blocked = boxes[box];
        if (!blocked.hasRow()) return faulted(FAULT_NULL);
        int all = ALL_STATES;
        for (int i = 0; i < blocked.length; i++) {
            int t = blocked.places[i];
            if (!terms.has(t)) return faulted(FAULT_NULL);
            if (terms.inputs[t] != 0) return OUTSIDE;
            all &= terms.trueStates(t, 0);
        }
        return lemmas.addIfFitting(ALL_STATES & ~all);
    }

    public int back() {
        return lemmas.count == 0 ? STATE : lemmas.removeLast();
    }

    public int ofLemma(int k, int what) {
        if (k < 0 || k >= lemmas.count) return UNKNOWN;
        switch (what) {
            case 0: return lemmas.sets[k];
            case 1: return Integer.bitCount(lemmas.sets[k]);
            case 2: return lemmas.cubes[k];
            default: return OUTSIDE;
        }
    }

    public int closed() {
        boolean startsAreGood = (machine.startStates & ~lemmas.goodStates()) == 0;
        return bit(startsAreGood && lemmas.weakStates() == 0);
    }

    // ---- 4 chances

    public int chance(int k) {
        if (k < 0 || k > LONGEST_WALK) return OUTSIDE;
        int startCount = Integer.bitCount(machine.startStates);
        if (startCount == 0) return STATE;
        int all = startCount << 2 * k;
        return (int) nearestBits(all - walks.countSafe(k), all, 24, 127);
    }

    public long mean() {
        int count = Integer.bitCount(machine.metStates);
        if (count == 0) return LOST;
        return nearestBits(machine.sumOfDistances(), count, 53, 1023);
    }

    // ---- 5 boxes

    public int box(int b, int sort, int n) {
        latestFault = 0;
        if (!isBox(b)) return UNKNOWN;
        if (sort < Box.ANY || sort > Box.GATES || n > Box.MOST) return OUTSIDE;
        if (n < 0) return faulted(FAULT_SIZE);
        boxes[b].getNewRow(sort, n);
        return 1;
    }

    public int lay(int b, int i, int t) {
        latestFault = 0;
        if (!isBox(b) || !terms.has(t)) return UNKNOWN;
        Box box = boxes[b];
        if (!box.hasRow()) return faulted(FAULT_NULL);
        if (!box.hasPlace(i)) return faulted(FAULT_INDEX);
        if (!box.admits(terms.kinds[t])) return faulted(FAULT_STORE);
        box.places[i] = t;
        return 1;
    }

    public int take(int b, int i) {
        latestFault = 0;
        if (!isBox(b)) return UNKNOWN;
        Box box = boxes[b];
        if (!box.hasRow()) return faulted(FAULT_NULL);
        if (!box.hasPlace(i)) return faulted(FAULT_INDEX);
        return box.places[i];
    }

    public int same(int b, int other) {
        latestFault = 0;
        if (!isBox(b) || !isBox(other)) return UNKNOWN;
        Box model = boxes[other];
        if (!model.hasRow()) return faulted(FAULT_NULL);
        boxes[b].becomeLike(model);
        return model.length;
    }

    public int move(int b, int i, int other, int j, int n) {
        latestFault = 0;
        if (!isBox(b) || !isBox(other)) return UNKNOWN;
        Box from = boxes[b];
        Box to = boxes[other];
        if (!from.hasRow() || !to.hasRow()) return faulted(FAULT_NULL);
        if (!from.hasRange(i, n) || !to.hasRange(j, n)) return faulted(FAULT_INDEX);
        // The places are read before any is written: in one box the ranges may overlap.
        for (int m = 0; m < n; m++) carried[m] = from.places[i + m];
        for (int m = 0; m < n; m++) {
            int t = carried[m];
            if (terms.has(t) && !to.admits(terms.kinds[t])) return faulted(FAULT_STORE);
            to.places[j + m] = t;
        }
        return n;
    }

    public int states(int b, int row, int how) {
        latestFault = 0;
        if (!isBox(b)) return UNKNOWN;
        if (!isRow(row) || how < 0 || how > 1) return OUTSIDE;
        Box box = boxes[b];
        if (!box.hasRow()) return faulted(FAULT_NULL);
        int all = ALL_STATES;
        int any = 0;
        for (int i = 0; i < box.length; i++) {
            int t = box.places[i];
            if (!terms.has(t)) continue;
            all &= terms.trueStates(t, row);
            any |= terms.trueStates(t, row);
        }
        return how == 0 ? all : any;
    }

    public int lose(int b) {
        if (!isBox(b)) return UNKNOWN;
        if (!boxes[b].hasRow()) return 0;
        boxes[b].loseRow();
        return 1;
    }

    public int fault() {
        return latestFault;
    }

    public int many(int what) {
        switch (what) {
            case 0: return terms.count;
            case 1: return lemmas.count;
            case 2: return Integer.bitCount(machine.startStates);
            case 3: return Integer.bitCount(machine.brokenStates);
            case 4: return Integer.bitCount(lemmas.goodStates());
            case 5: return countFilledBoxes();
            default: return OUTSIDE;
        }
    }

    private int countFilledBoxes() {
        int count = 0;
        for (int b = 0; b < BOXES; b++) {
            if (boxes[b].hasRow()) count++;
        }
        return count;
    }

    private int faulted(int which) {
        latestFault = which;
        return -10 - which;
    }

    private static boolean isState(int state) {
        return state >= 0 && state < STATES;
    }

    private static boolean isRow(int row) {
        return row >= 0 && row < ROWS;
    }

    private static boolean isBox(int b) {
        return b >= 0 && b < BOXES;
    }

    private static boolean isIn(int number, int set) {
        return (set >> number & 1) == 1;
    }

    private static int bit(boolean so) {
        return so ? 1 : 0;
    }

    /** The least number in a set of states, or NONE. */
    private static int leastOf(int set) {
        for (int s = 0; s < STATES; s++) {
            if (isIn(s, set)) return s;
        }
        return NONE;
    }

    /**
     * The bits of the floating number with so many binary digits that is nearest to
     * top / bottom. Whole numbers alone are used, so that the rounding is seen here;
     * top is less than 2 to the 7th or at most bottom, which keeps all in a long.
     */
    private static long nearestBits(long top, long bottom, int digits, int bias) {
        if (top <= 0 || bottom <= 0) return 0;
        long unit = 1L << digits - 1;
        int shift = 0;
        while (shift < 62 && top << shift < bottom * unit) shift++;
        long quotient = (top << shift) / bottom;
        long twiceRest = (top << shift) % bottom * 2;
        if (twiceRest > bottom || twiceRest == bottom && quotient % 2 == 1) quotient++;
        // A quotient rounded up to 2 * unit carries into the exponent, as it should.
        return (bias + digits - 1 - shift) * unit + (quotient - unit);
    }

    /** Block 1: the terms, held in columns. */
    private static final class Terms {
        private static final int MOST = 40;

        private final int[] kinds = new int[MOST];
        private final int[] firsts = new int[MOST];
        private final int[] seconds = new int[MOST];
        private final int[] thirds = new int[MOST];
        private final int[] variables = new int[MOST];
        private final int[] inputs = new int[MOST];
        private final int[] depths = new int[MOST];
        private final long[] leafCounts = new long[MOST];
        private final long[] tables = new long[MOST];
        private int count = 0;

        private boolean has(int t) {
            return t >= 0 && t < count;
        }

        private int trueStates(int t, int row) {
            return (int) (tables[t] >>> STATES * row) & ALL_STATES;
        }

        /** A leaf's number stands as its first part; a part that a term has not is NONE. */
        private int elderOrNew(int kind, int first, int second, int third) {
            for (int t = 0; t < count; t++) {
                if (isJust(t, kind, first, second, third)) return t;
            }
            if (count >= MOST) return FULL;
            int t = count;
            kinds[t] = kind;
            firsts[t] = first;
            seconds[t] = second;
            thirds[t] = third;
            if (kind <= INPUT) fillLeaf(t);
            else fillFromParts(t);
            count = t + 1;
            return t;
        }

        private boolean isJust(int t, int kind, int first, int second, int third) {
            return kinds[t] == kind && firsts[t] == first
                && seconds[t] == second && thirds[t] == third;
        }

        private void fillLeaf(int t) {
            int number = firsts[t];
            variables[t] = kinds[t] == VARIABLE ? 1 << number : 0;
            inputs[t] = kinds[t] == INPUT ? 1 << number : 0;
            depths[t] = 0;
            leafCounts[t] = 1;
            tables[t] = leafTable(kinds[t], number);
        }

        private static long leafTable(int kind, int number) {
            switch (kind) {
                case CONSTANT: return CONSTANT_TABLES[number];
                case VARIABLE: return VARIABLE_TABLES[number];
                default: return INPUT_TABLES[number];
            }
        }

        private void fillFromParts(int t) {
            variables[t] = 0;
            inputs[t] = 0;
            depths[t] = 0;
            leafCounts[t] = 0;
            addPart(t, firsts[t]);
            addPart(t, seconds[t]);
            addPart(t, thirds[t]);
            tables[t] = joinedTable(kinds[t],
                tableOf(firsts[t]), tableOf(seconds[t]), tableOf(thirds[t]));
        }

        private void addPart(int t, int part) {
            if (!has(part)) return;
            variables[t] |= variables[part];
            inputs[t] |= inputs[part];
            depths[t] = Math.max(depths[t], depths[part] + 1);
            leafCounts[t] += leafCounts[part];
        }

        private long tableOf(int part) {
            return has(part) ? tables[part] : 0L;
        }

        private static long joinedTable(int kind, long first, long second, long third) {
            switch (kind) {
                case NOT: return ~first;
                case BOTH: return first & second;
                case EITHER: return first | second;
                case UNLIKE: return first ^ second;
                default: return first & second | ~first & third;
            }
        }
    }

    /** Block 2: what is told of the machine, and what follows, made anew as it is told. */
    private static final class Machine {
        private final Terms terms;
        private int startsTerm = NONE;
        private int claimTerm = NONE;
        private final int[] nextTerms = new int[VARIABLES];
        private int startStates = ALL_STATES;
        private int brokenStates = 0;
        private final int[] targets = new int[ROWS * STATES];
        private final int[] reached = new int[STATES];
        private int stepsVersion = 0;
        private final int[] distances = new int[STATES];
        private int metStates = 0;
        private int wayLength = NONE;
        private final int[] wayStates = new int[LONGEST_WAY + 1];
        private final int[] wayRows = new int[LONGEST_WAY];
        private final int[] leading = new int[LONGEST_WAY + 1];

        private Machine(Terms terms) {
            this.terms = terms;
            for (int v = 0; v < VARIABLES; v++) nextTerms[v] = NONE;
            renewSteps();
            renewDistances();
        }

        private int tellStarts(int t) {
            int was = startsTerm;
            startsTerm = t;
            startStates = terms.trueStates(t, 0);
            renewDistances();
            renewWay();
            return was;
        }

        private int tellNext(int v, int t) {
            int was = nextTerms[v];
            nextTerms[v] = t;
            renewSteps();
            renewDistances();
            renewWay();
            return was;
        }

        private int tellClaim(int t) {
            int was = claimTerm;
            claimTerm = t;
            brokenStates = ALL_STATES & ~terms.trueStates(t, 0);
            renewWay();
            return was;
        }

        private int target(int state, int row) {
            return targets[STATES * row + state];
        }

        private void renewSteps() {
            stepsVersion++;
            for (int place = 0; place < ROWS * STATES; place++) {
                int to = 0;
                for (int v = 0; v < VARIABLES; v++) {
                    to |= (int) (nextTable(v) >>> place & 1L) << v;
                }
                targets[place] = to;
            }
            for (int s = 0; s < STATES; s++) {
                reached[s] = 0;
                for (int row = 0; row < ROWS; row++) reached[s] |= 1 << target(s, row);
            }
        }

        private long nextTable(int v) {
            int t = nextTerms[v];
            return terms.has(t) ? terms.tables[t] : VARIABLE_TABLES[v];
        }

        /** All states to which a step leads from one of a set. */
        private int image(int set) {
            int image = 0;
            for (int s = 0; s < STATES; s++) {
                if (isIn(s, set)) image |= reached[s];
            }
            return image;
        }

        /** All states from which a step leads into a set. */
        private int sources(int set) {
            int sources = 0;
            for (int s = 0; s < STATES; s++) {
                if ((reached[s] & set) != 0) sources |= 1 << s;
            }
            return sources;
        }

        private void renewDistances() {
            for (int s = 0; s < STATES; s++) distances[s] = NONE;
            metStates = 0;
            int edge = startStates;
            for (int far = 0; far < STATES && edge != 0; far++) {
                for (int s = 0; s < STATES; s++) {
                    if (isIn(s, edge)) distances[s] = far;
                }
                metStates |= edge;
                edge = image(edge) & ~metStates;
            }
        }

        private int greatestDistance() {
            int greatest = NONE;
            for (int s = 0; s < STATES; s++) greatest = Math.max(greatest, distances[s]);
            return greatest;
        }

        private int sumOfDistances() {
            int sum = 0;
            for (int s = 0; s < STATES; s++) {
                if (isIn(s, metStates)) sum += distances[s];
            }
            return sum;
        }

        /** The least distance of a broken state, or NONE. */
        private int leastBrokenDistance() {
            int least = NONE;
            for (int s = 0; s < STATES; s++) {
                if (!isIn(s, brokenStates & metStates)) continue;
                if (least == NONE || distances[s] < least) least = distances[s];
            }
            return least;
        }

        private boolean isClear(int k) {
            int least = leastBrokenDistance();
            return least == NONE || least >= k;
        }

        private void renewWay() {
            wayLength = leastBrokenDistance();
            if (wayLength < 0 || wayLength > LONGEST_WAY) return;
            // leading[m]: the states from which m steps can end in a broken one.
            leading[0] = brokenStates;
            for (int m = 1; m <= wayLength; m++) leading[m] = sources(leading[m - 1]);
            // A broken state has that distance, so there is such a start; max keeps the index safe.
            int state = Math.max(0, leastOf(startStates & leading[wayLength]));
            wayStates[0] = state;
            for (int k = 0; k < wayLength; k++) {
                wayRows[k] = leastRowInto(state, leading[wayLength - 1 - k]);
                state = target(state, wayRows[k]);
                wayStates[k + 1] = state;
            }
        }

        /** The least row with which a state leads into a set; 0, though it is never asked so, if none does. */
        private int leastRowInto(int state, int set) {
            for (int row = 0; row < ROWS; row++) {
                if (isIn(target(state, row), set)) return row;
            }
            return 0;
        }

        private int looseInStart() {
            int loose = 0;
            for (int v = 0; v < VARIABLES; v++) {
                int start = wayStates[0] ^ 1 << v;
                if (isIn(start, startStates) && endsBroken(start, NONE, 0)) loose |= 1 << v;
            }
            return loose;
        }

        private int looseInRow(int k) {
            int loose = 0;
            for (int i = 0; i < INPUTS; i++) {
                if (endsBroken(wayStates[0], k, 1 << i)) loose |= 1 << i;
            }
            return loose;
        }

        /** Whether the way's rows, with some inputs of one of them turned, end in a broken state. */
        private boolean endsBroken(int start, int turnedStep, int turnedInputs) {
            int state = start;
            for (int k = 0; k < wayLength; k++) {
                int row = k == turnedStep ? wayRows[k] ^ turnedInputs : wayRows[k];
                state = target(state, row);
            }
            return isIn(state, brokenStates);
        }

        private int coneVariables() {
            int cone = terms.has(claimTerm) ? terms.variables[claimTerm] : 0;
            // Each round but the last adds a variable, so as many rounds as variables are enough.
            for (int round = 0; round < VARIABLES; round++) {
                for (int v = 0; v < VARIABLES; v++) {
                    if (isIn(v, cone) && terms.has(nextTerms[v])) cone |= terms.variables[nextTerms[v]];
                }
            }
            return cone;
        }

        private int inputsOf(int cone) {
            int inputs = 0;
            for (int v = 0; v < VARIABLES; v++) {
                if (isIn(v, cone) && terms.has(nextTerms[v])) inputs |= terms.inputs[nextTerms[v]];
            }
            return inputs;
        }
    }

    /** Block 3: the lemmas, and what they make of the machine's states. */
    private static final class Lemmas {
        private static final int MOST = 8;

        private final Machine machine;
        private final int[] sets = new int[MOST];
        private final int[] cubes = new int[MOST];
        private int count = 0;
        private int common = ALL_STATES;

        private Lemmas(Machine machine) {
            this.machine = machine;
        }

        private void forgetAll() {
            count = 0;
            common = ALL_STATES;
        }

        private int goodStates() {
            return common & ~machine.brokenStates;
        }

        /** The broken states that no lemma rules out. */
        private int threats() {
            return common & machine.brokenStates;
        }

        private int weakStates() {
            return goodStates() & machine.sources(threats());
        }

        private boolean fits(int set) {
            if ((machine.startStates & ~set) != 0) return false;
            return (machine.image(goodStates() & set) & ~set) == 0;
        }

        private int addIfFitting(int set) {
            if (!fits(set)) return STATE;
            return add(set, NONE);
        }

        private int add(int set, int cube) {
            if (count >= MOST) return FULL;
            sets[count] = set;
            cubes[count] = cube;
            common &= set;
            count++;
            return count - 1;
        }

        private int removeLast() {
            if (count > 0) count--;
            common = ALL_STATES;
            for (int k = 0; k < count; k++) common &= sets[k];
            return count;
        }

        private int addByStrengthening() {
            if (weakStates() == 0) return NONE;
            int state = leastThatCanGo(weakStates());
            if (state == NONE) return STATE;
            int names = widestNames(state);
            int cube = 16 * names + (state & names);
            return add(outside(names, state), cube) == FULL ? FULL : cube;
        }

        private int leastThatCanGo(int weakStates) {
            for (int s = 0; s < STATES; s++) {
                if (isIn(s, weakStates) && fits(ALL_STATES & ~(1 << s))) return s;
            }
            return NONE;
        }

        private int widestNames(int state) {
            int names = (1 << VARIABLES) - 1;
            for (int v = 0; v < VARIABLES; v++) {
                int fewer = names & ~(1 << v);
                if (fits(outside(fewer, state))) names = fewer;
            }
            return names;
        }

        /** The states that differ from a state in one of the named variables. */
        private static int outside(int names, int state) {
            int outside = 0;
            for (int s = 0; s < STATES; s++) {
                if (((s ^ state) & names) != 0) outside |= 1 << s;
            }
            return outside;
        }
    }

    /** Block 3: the search for the first chain, whose last result is kept for the next call. */
    private static final class Chains {
        private final Machine machine;
        private final Lemmas lemmas;
        private final int[] path = new int[LONGEST_CHAIN + 1];
        private final int[] rows = new int[LONGEST_CHAIN];
        private final int[] leading = new int[LONGEST_CHAIN + 1];
        private boolean found = false;
        private int keptLength = NONE;
        private int keptGood = 0;
        private int keptThreats = 0;
        private int keptVersion = 0;

        private Chains(Machine machine, Lemmas lemmas) {
            this.machine = machine;
            this.lemmas = lemmas;
        }

        /** Whether there is a chain of k; the first one is in path and rows then. */
        private boolean find(int k) {
            if (isKept(k)) return found;
            keptLength = k;
            keptGood = lemmas.goodStates();
            keptThreats = lemmas.threats();
            keptVersion = machine.stepsVersion;
            found = search(k);
            return found;
        }

        /** A chain hangs on its length, on the good states and threats, and on the steps alone. */
        private boolean isKept(int k) {
            return keptLength == k && keptVersion == machine.stepsVersion
                && keptGood == lemmas.goodStates() && keptThreats == lemmas.threats();
        }

        private boolean search(int k) {
            // leading[m]: the states from which m steps over good ones can end in a threat.
            // It leaves out most dead ends; that no two states are alike is seen to in extend.
            leading[0] = keptThreats;
            for (int m = 1; m <= k; m++) leading[m] = keptGood & machine.sources(leading[m - 1]);
            for (int s = 0; s < STATES; s++) {
                if (isIn(s, leading[k]) && extend(s, 0, 0, k)) return true;
            }
            return false;
        }

        /** Whether the chain of k goes on from its i-th state, past those that it has used. */
        private boolean extend(int state, int i, int used, int k) {
            path[i] = state;
            if (i >= k) return true;
            int tried = used | 1 << state;
            for (int row = 0; row < ROWS; row++) {
                int to = machine.target(state, row);
                if (isIn(to, tried) || !isIn(to, leading[k - 1 - i])) continue;
                tried |= 1 << to;
                rows[i] = row;
                if (extend(to, i + 1, used | 1 << state, k)) return true;
            }
            return false;
        }
    }

    /** Block 4: the walks that meet no broken state, counted from each state. */
    private static final class Walks {
        private final Machine machine;
        private final int[] shorter = new int[STATES];
        private final int[] safe = new int[STATES];

        private Walks(Machine machine) {
            this.machine = machine;
        }

        private int countSafe(int k) {
            for (int s = 0; s < STATES; s++) safe[s] = bit(!isIn(s, machine.brokenStates));
            for (int m = 0; m < k; m++) lengthen();
            int sum = 0;
            for (int s = 0; s < STATES; s++) {
                if (isIn(s, machine.startStates)) sum += safe[s];
            }
            return sum;
        }

        private void lengthen() {
            for (int s = 0; s < STATES; s++) shorter[s] = safe[s];
            for (int s = 0; s < STATES; s++) {
                safe[s] = 0;
                if (isIn(s, machine.brokenStates)) continue;
                for (int row = 0; row < ROWS; row++) safe[s] += shorter[machine.target(s, row)];
            }
        }
    }

    /** Block 5: a box; its row is made once and used again, a length of NONE says that it has nothing. */
    private static final class Box {
        private static final int MOST = 8;
        private static final int ANY = 0, LEAVES = 1, ONLY_VARIABLES = 2, GATES = 3;

        private final int[] places = new int[MOST];
        private int sort = ANY;
        private int length = NONE;

        private boolean hasRow() {
            return length >= 0;
        }

        private boolean hasPlace(int i) {
            return i >= 0 && i < length;
        }

        private boolean hasRange(int i, int n) {
            return i >= 0 && n >= 0 && i <= length && n <= length - i;
        }

        private boolean admits(int kind) {
            switch (sort) {
                case LEAVES: return kind <= INPUT;
                case ONLY_VARIABLES: return kind == VARIABLE;
                case GATES: return kind >= NOT && kind <= UNLIKE;
                default: return true;
            }
        }

        private void getNewRow(int newSort, int newLength) {
            sort = newSort;
            length = newLength;
            for (int i = 0; i < MOST; i++) places[i] = NONE;
        }

        private void becomeLike(Box model) {
            sort = model.sort;
            length = model.length;
            for (int i = 0; i < MOST; i++) places[i] = model.places[i];
        }

        private void loseRow() {
            length = NONE;
        }
    }
}
