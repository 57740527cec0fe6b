/** What the tests share: the answers by their names, and machines that they ask. */
abstract class Fixtures {
    static final int UNKNOWN = -1, OUTSIDE = -2, STATE = -3, FULL = -4, NONE = -9;
    static final int NULL = -11, STORE = -12, INDEX = -13, SIZE = -14;
    static final long LOST = Long.MIN_VALUE;
    static final int LOW = Integer.MIN_VALUE, HIGH = Integer.MAX_VALUE;
    static final int ALL = 0xFFFF;
    static final int NOT = 3, BOTH = 4, EITHER = 5, UNLIKE = 6;
    /** The terms of withLeaves(): variables are 0 .. 3. */
    static final int IN0 = 4, IN1 = 5, ZERO = 6, ONE = 7;

    static ClaimChains withLeaves() {
        ClaimChains x = new ClaimChains();
        for (int v = 0; v < 4; v++) x.leaf(1, v);
        x.leaf(2, 0);
        x.leaf(2, 1);
        x.leaf(0, 0);
        x.leaf(0, 1);
        return x;
    }

    /** The term that is 1 in the states that have of some variables just a part. */
    static int cube(ClaimChains x, int names, int part) {
        int all = ONE;
        for (int v = 0; v < 4; v++) {
            if ((names & 1 << v) == 0) continue;
            int literal = (part & 1 << v) != 0 ? v : x.gate(NOT, v, 0);
            all = all == ONE ? literal : x.gate(BOTH, all, literal);
        }
        return all;
    }

    /** The term that is 1 in one state alone. */
    static int just(ClaimChains x, int state) {
        return cube(x, 15, state);
    }

    static void fillTerms(ClaimChains x) {
        int first = x.many(0);
        for (int t = first; t < 40; t++) x.gate(NOT, t - 1, 0);
    }

    /** Lays terms into the first places of a box; NONE leaves a place as it is. */
    static void layRow(ClaimChains x, int b, int... terms) {
        for (int i = 0; i < terms.length; i++) {
            if (terms[i] != NONE) x.lay(b, i, terms[i]);
        }
    }

    /** Variables 0 and 1 count the steps with input 0, from 0 on; 3 breaks the claim. */
    static ClaimChains counter() {
        ClaimChains x = withLeaves();
        x.starts(cube(x, 15, 0));
        x.next(0, x.gate(UNLIKE, 0, IN0));
        x.next(1, x.gate(UNLIKE, 1, x.gate(BOTH, 0, IN0)));
        x.claim(x.gate(NOT, cube(x, 3, 3), 0));
        return x;
    }

    /** Bits go from variable 0 to 3, none comes in; it starts without any; variable 3 breaks the claim. */
    static ClaimChains shifter() {
        ClaimChains x = withLeaves();
        x.starts(cube(x, 15, 0));
        x.next(0, ZERO);
        x.next(1, 0);
        x.next(2, 1);
        x.next(3, 2);
        x.claim(x.gate(NOT, 3, 0));
        return x;
    }

    /** All four variables count the steps, from 0 on, round and round; nothing is claimed. */
    static ClaimChains wheel() {
        ClaimChains x = withLeaves();
        x.starts(just(x, 0));
        int both = x.gate(BOTH, 0, 1);
        x.next(0, x.gate(NOT, 0, 0));
        x.next(1, x.gate(UNLIKE, 1, 0));
        x.next(2, x.gate(UNLIKE, 2, both));
        x.next(3, x.gate(UNLIKE, 3, x.gate(BOTH, both, 2)));
        return x;
    }

    /** The wheel, of which one state breaks the claim: as many steps are there to it. */
    static ClaimChains wheelTo(int broken) {
        ClaimChains x = wheel();
        x.claim(x.gate(NOT, just(x, broken), 0));
        return x;
    }

    /** The longest way that there is. */
    static ClaimChains longest() {
        return wheelTo(15);
    }
}
