/** The boundary cases of promises 1 to 9: a new object, and terms. */
public final class TermsEdgesTest extends Edges {
    private static final int[] GREATEST_NUMBER = {1, 3, 1};

    /** A leaf and 38 terms above it: there is room for one more. */
    private static ClaimChains oneLeftFrom(int kind, int n) {
        ClaimChains x = new ClaimChains();
        x.leaf(kind, n);
        for (int t = 0; t < 38; t++) x.gate(NOT, t, 0);
        return x;
    }

    /** Variable 0, 38 terms above it, and a choice of three of them: there is room for no more. */
    private static ClaimChains full() {
        ClaimChains x = oneLeftFrom(1, 0);
        x.choice(0, 1, 2);
        return x;
    }

    private static void aNewObjectHasNoTerms() {
        of(1, "No TERMS");
        ClaimChains x = new ClaimChains();
        due("many(0)", x.many(0), 0);
        for (int what = 0; what <= 6; what++) due("ofTerm(0, " + what + ")", x.ofTerm(0, what), UNKNOWN);
        due("leaves(0)", x.leaves(0), LOST);
        due("gate", x.gate(NOT, 0, 0), UNKNOWN);
        due("gate", x.gate(BOTH, 0, 0), UNKNOWN);
        due("choice", x.choice(0, 0, 0), UNKNOWN);
        due("the first TERM", x.leaf(1, 3), 0);
        due("another object's", new ClaimChains().many(0), 0);
    }

    private static void ofANewObjectNothingIsTold() {
        of(1, "nothing is told of the MACHINE");
        ClaimChains x = new ClaimChains();
        int[] met = {16, 0, ALL, NONE, ALL, 0};
        for (int what = 0; what < 6; what++) due("met(" + what + ")", x.met(what), met[what]);
        for (int s = 0; s < 16; s++) {
            for (int row = 0; row < 4; row++) due("step", x.step(s, row), s);
            due("before(" + s + ")", x.before(s), 1 << s);
            due("distance(" + s + ")", x.distance(s), 0);
        }
        due("way(0, 0)", x.way(0, 0), NONE);
        due("loose(-1)", x.loose(-1), STATE);
        due("cone(0)", x.cone(0), 0);
        due("cone(1)", x.cone(1), 0);
        due("weak(0)", x.weak(0), 0);
        due("weak(1)", x.weak(1), ALL);
        due("closed()", x.closed(), 1);
        due("settle(0)", x.settle(0), 0);
        due("chance(8)", x.chance(8), 0);
        due("mean()", x.mean(), 0);
        due("back()", x.back(), STATE);
        due("ofLemma(0, 0)", x.ofLemma(0, 0), UNKNOWN);
        due("strengthen()", x.strengthen(), NONE);
        x.leaf(0, 1);
        due("starts", x.starts(0), NONE);
        for (int v = 0; v < 4; v++) due("next(" + v + ", 0)", x.next(v, 0), NONE);
        due("claim", x.claim(0), NONE);
    }

    private static void aNewObjectsBoxesHaveNothing() {
        of(1, "BOXES have nothing");
        ClaimChains x = new ClaimChains();
        due("fault()", x.fault(), 0);
        due("many(5)", x.many(5), 0);
        for (int b = 0; b < 4; b++) {
            due("lose(" + b + ")", x.lose(b), 0);
            due("take(" + b + ", 0)", x.take(b, 0), NULL);
            due("states(" + b + ", 0, 0)", x.states(b, 0, 0), NULL);
            due("same(0, " + b + ")", x.same(0, b), NULL);
            due("block(" + b + ")", x.block(b), NULL);
        }
        due("many(5)", x.many(5), 0);
    }

    /** The last call for which an answer is promised. */
    private static void the512thCall() {
        of(1, "at most 512 calls");
        ClaimChains x = counter();
        int asked = 24;
        for (int k = asked; k < 511; k++) x.box(k & 3, k & 3, k % 9);
        due("the 512th call", x.chain(3, 3, 0), 3);
    }

    private static void leafKindAndNumber() {
        of(2, "OUTSIDE: kind, number");
        bounds(ClaimChains::new, call("leaf", 0, 0), 0, 0, 2, OUTSIDE);
        for (int kind = 0; kind < 3; kind++) {
            bounds(ClaimChains::new, call("leaf", kind, 0), 1, 0, GREATEST_NUMBER[kind], OUTSIDE);
        }
        ClaimChains x = new ClaimChains();
        due("kind and number", x.leaf(3, 4), OUTSIDE);
        due("kind and number", x.leaf(-1, -1), OUTSIDE);
        due("none has come", x.many(0), 0);
    }

    private static void leavesComeOnce() {
        of(2, "the TERM's number; an elder one");
        ClaimChains x = new ClaimChains();
        for (int round = 0; round < 2; round++) {
            int number = 0;
            for (int kind = 2; kind >= 0; kind--) {
                for (int n = GREATEST_NUMBER[kind]; n >= 0; n--) due("leaf(" + kind + ", " + n + ")", x.leaf(kind, n), number++);
            }
        }
        due("eight in all", x.many(0), 8);
    }

    private static void leafWhenFull() {
        of(2, "FULL");
        ClaimChains x = oneLeftFrom(1, 0);
        due("OUTSIDE leaves the room", x.leaf(1, 4), OUTSIDE);
        due("the 40th", x.leaf(2, 1), 39);
        due("the 41st", x.leaf(2, 0), FULL);
        due("the 41st again", x.leaf(0, 0), FULL);
        due("elder ones", x.leaf(1, 0), 0);
        due("elder ones", x.leaf(2, 1), 39);
        due("OUTSIDE (kind) and FULL", x.leaf(3, 0), OUTSIDE);
        due("OUTSIDE (number) and FULL", x.leaf(2, 2), OUTSIDE);
        due("40 and no more", x.many(0), 40);
        due("the last is as it was", x.ofTerm(39, 0), 2);
        due("there is no 41st", x.ofTerm(40, 0), UNKNOWN);
    }

    private static void gateKind() {
        of(3, "OUTSIDE: kind");
        bounds(Fixtures::withLeaves, call("gate", 0, 0, 1), 0, 3, 6, OUTSIDE);
        ClaimChains x = withLeaves();
        due("OUTSIDE and UNKNOWN: a", x.gate(7, 8, 0), OUTSIDE);
        due("OUTSIDE and UNKNOWN: b", x.gate(2, 0, -1), OUTSIDE);
        due("OUTSIDE and UNKNOWN: both", x.gate(LOW, LOW, LOW), OUTSIDE);
        due("none has come", x.many(0), 8);
    }

    private static void gateParts() {
        of(3, "UNKNOWN: a, b");
        for (int kind = NOT; kind <= UNLIKE; kind++) {
            termBounds(Fixtures::withLeaves, call("gate", kind, 0, 0), 1, UNKNOWN);
            if (kind != NOT) termBounds(Fixtures::withLeaves, call("gate", kind, 0, 0), 2, UNKNOWN);
        }
        ClaimChains x = withLeaves();
        due("a and b", x.gate(BOTH, 8, 8), UNKNOWN);
        due("none has come", x.many(0), 8);
        due("of the last TERM", x.gate(UNLIKE, 7, 7), 8);
        due("of that one", x.gate(UNLIKE, 8, 8), 9);
    }

    private static void gateNotHasOnePart() {
        of(3, "of NOT b is not looked at");
        for (int b : new int[] {LOW, -1, 0, 7, 8, 9, HIGH}) {
            ClaimChains x = withLeaves();
            due("b " + b, x.gate(NOT, 0, b), 8);
            due("second part", x.ofTerm(8, 2), NONE);
            due("the elder one", x.gate(NOT, 0, 1), 8);
            due("the elder one", x.gate(NOT, 0, LOW), 8);
        }
    }

    private static void gatesComeOnce() {
        of(3, "an elder one");
        ClaimChains x = withLeaves();
        int number = 8;
        for (int kind = BOTH; kind <= UNLIKE; kind++) {
            due("kind " + kind, x.gate(kind, 0, 1), number++);
            due("its parts the other way", x.gate(kind, 1, 0), number++);
            due("the same part twice", x.gate(kind, 1, 1), number++);
        }
        due("NOT of a part that has a gate of two", x.gate(NOT, 1, 1), number++);
        due("like 8", x.gate(BOTH, 0, 1), 8);
        due("like the last", x.gate(NOT, 1, 0), number - 1);
        due("no more have come", x.many(0), number);
    }

    private static void gateWhenFull() {
        of(3, "FULL");
        ClaimChains x = oneLeftFrom(1, 0);
        due("the 40th", x.gate(BOTH, 38, 0), 39);
        due("the 41st", x.gate(BOTH, 0, 38), FULL);
        due("the 41st", x.gate(NOT, 39, 0), FULL);
        due("of NOT b is not looked at", x.gate(NOT, 39, 40), FULL);
        due("elder ones", x.gate(BOTH, 38, 0), 39);
        due("elder ones", x.gate(NOT, 0, HIGH), 1);
        due("OUTSIDE and FULL", x.gate(7, 0, 0), OUTSIDE);
        due("UNKNOWN (a) and FULL", x.gate(NOT, 40, 0), UNKNOWN);
        due("UNKNOWN (b) and FULL", x.gate(BOTH, 0, 40), UNKNOWN);
        due("OUTSIDE, UNKNOWN and FULL", x.gate(7, 40, 40), OUTSIDE);
        due("40 and no more", x.many(0), 40);
    }

    private static void choiceParts() {
        of(4, "UNKNOWN");
        for (int place = 0; place < 3; place++) termBounds(Fixtures::withLeaves, call("choice", 0, 0, 0), place, UNKNOWN);
        ClaimChains x = withLeaves();
        due("all three", x.choice(8, 8, 8), UNKNOWN);
        due("none has come", x.many(0), 8);
        due("of the last TERM", x.choice(7, 7, 7), 8);
    }

    private static void choicesComeOnce() {
        of(4, "an elder one");
        ClaimChains x = withLeaves();
        int[][] parts = {{0, 1, 2}, {0, 2, 1}, {1, 0, 2}, {1, 2, 0}, {2, 0, 1}, {2, 1, 0}, {0, 0, 0}, {0, 0, 1}, {0, 1, 0}, {1, 0, 0}};
        for (int round = 0; round < 2; round++) {
            for (int k = 0; k < parts.length; k++) due("choice " + k, x.choice(parts[k][0], parts[k][1], parts[k][2]), 8 + k);
        }
    }

    private static void choiceWhenFull() {
        of(4, "FULL");
        ClaimChains x = oneLeftFrom(1, 0);
        due("the 40th", x.choice(38, 0, 1), 39);
        due("the 41st", x.choice(38, 1, 0), FULL);
        due("an elder one", x.choice(38, 0, 1), 39);
        due("UNKNOWN (first) and FULL", x.choice(40, 0, 0), UNKNOWN);
        due("UNKNOWN (second) and FULL", x.choice(0, 40, 0), UNKNOWN);
        due("UNKNOWN (third) and FULL", x.choice(0, 0, -1), UNKNOWN);
        due("40 and no more", x.many(0), 40);
    }

    private static void ofTermBounds() {
        of(5, "UNKNOWN; OUTSIDE");
        termBounds(Fixtures::withLeaves, call("ofTerm", 0, 0), 0, UNKNOWN);
        termBounds(TermsEdgesTest::full, call("ofTerm", 0, 0), 0, UNKNOWN);
        bounds(Fixtures::withLeaves, call("ofTerm", 3, 0), 1, 0, 6, OUTSIDE);
        ClaimChains x = withLeaves();
        due("UNKNOWN and OUTSIDE", x.ofTerm(8, 7), UNKNOWN);
        due("UNKNOWN and OUTSIDE", x.ofTerm(-1, -1), UNKNOWN);
    }

    private static void ofTermWithoutParts() {
        of(5, "NONE: it has none");
        ClaimChains x = withLeaves();
        int not = x.gate(NOT, 0, 1), unlike = x.gate(UNLIKE, 3, 0), choice = x.choice(0, 0, 0);
        int[][] want = {{0, NONE, NONE}, {0, NONE, NONE}, {3, 0, NONE}, {0, 0, 0}};
        int[] terms = {0, not, unlike, choice};
        for (int k = 0; k < 4; k++) {
            for (int part = 0; part < 3; part++) due("part " + part + " of " + terms[k], x.ofTerm(terms[k], 1 + part), want[k][part]);
        }
        due("number of CONSTANT 0", x.ofTerm(ZERO, 1), 0);
        due("number of CONSTANT 1", x.ofTerm(ONE, 1), 1);
        due("number of VARIABLE 3", x.ofTerm(3, 1), 3);
    }

    private static void ofTermNamesNoneOrAll() {
        of(5, "VARIABLES, INPUTS that it NAMES");
        ClaimChains x = withLeaves();
        due("a CONSTANT", x.ofTerm(ONE, 4) + x.ofTerm(ONE, 5), 0);
        int of0 = x.choice(ONE, ZERO, x.gate(NOT, ZERO, 0));
        due("of CONSTANTS alone", x.ofTerm(of0, 4) + x.ofTerm(of0, 5), 0);
        int all = x.choice(x.gate(BOTH, 0, 1), x.gate(UNLIKE, 2, IN0), x.gate(EITHER, IN1, 3));
        due("all VARIABLES", x.ofTerm(all, 4), 15);
        due("all INPUTS", x.ofTerm(all, 5), 3);
        int lost = x.gate(BOTH, ZERO, all);
        due("all, though they do not matter", x.ofTerm(lost, 4) * 4 + x.ofTerm(lost, 5), 63);
    }

    private static void ofTermHowDeep() {
        of(5, "how deep");
        ClaimChains x = oneLeftFrom(0, 1);
        for (int t = 0; t < 39; t++) due("of " + t, x.ofTerm(t, 6), t);
        due("the deepest that there is room for", x.ofTerm(x.gate(NOT, 38, 0), 6), 39);
        int[][] parts = {{3, 0, 1}, {0, 3, 1}, {1, 0, 3}};
        for (int[] p : parts) {
            ClaimChains y = new ClaimChains();
            y.leaf(0, 1);
            for (int t = 0; t < 3; t++) y.gate(NOT, t, 0);
            due("1 more than the deepest part", y.ofTerm(y.choice(p[0], p[1], p[2]), 6), 4);
        }
    }

    private static void leavesOneToAll() {
        of(6, "How many LEAVES");
        ClaimChains x = new ClaimChains();
        due("a LEAF", x.leaves(x.leaf(2, 0)), 1);
        due("NOT of it", x.leaves(x.gate(NOT, 0, 0)), 1);
        ClaimChains y = new ClaimChains();
        y.leaf(0, 0);
        for (int t = 0; t < 39; t++) y.choice(t, t, t);
        long most = 1;
        for (int t = 0; t < 40; t++) {
            due("of " + t, y.leaves(t), most);
            most *= 3;
        }
        ClaimChains z = new ClaimChains();
        z.leaf(0, 0);
        for (int t = 0; t < 39; t++) z.gate(BOTH, t, t);
        due("2 to the 39th", z.leaves(39), 1L << 39);
    }

    private static void leavesOfNoTerm() {
        of(6, "LOST: UNKNOWN");
        termBounds(Fixtures::withLeaves, call("leaves", 0), 0, LOST);
        termBounds(TermsEdgesTest::full, call("leaves", 0), 0, LOST);
    }

    private static void valueBounds() {
        of(7, "UNKNOWN; OUTSIDE");
        termBounds(Fixtures::withLeaves, call("value", 0, 0, 0), 0, UNKNOWN);
        bounds(Fixtures::withLeaves, call("value", 0, 0, 0), 1, 0, 15, OUTSIDE);
        bounds(Fixtures::withLeaves, call("value", 0, 0, 0), 2, 0, 3, OUTSIDE);
        ClaimChains x = withLeaves();
        due("UNKNOWN and OUTSIDE: state", x.value(8, 16, 0), UNKNOWN);
        due("UNKNOWN and OUTSIDE: row", x.value(-1, 0, 4), UNKNOWN);
        due("OUTSIDE: state, row", x.value(0, -1, -1), OUTSIDE);
    }

    private static void valueInTheLeastAndTheGreatest() {
        of(7, "VALUE of a TERM");
        ClaimChains x = withLeaves();
        for (int t = 0; t < 6; t++) {
            due("in nothing", x.value(t, 0, 0), 0);
            due("in all", x.value(t, 15, 3), 1);
            due("in all VARIABLES, no INPUTS", x.value(t, 15, 0), t < 4 ? 1 : 0);
            due("in no VARIABLES, all INPUTS", x.value(t, 0, 3), t < 4 ? 0 : 1);
        }
        due("0", x.value(ZERO, 15, 3), 0);
        due("1", x.value(ONE, 0, 0), 1);
    }

    /** A gate's VALUE, part by part: each row of its table is a boundary of the words that tell it. */
    private static void valueOfGates() {
        of(7, "of NOT, BOTH, EITHER, UNLIKE, a CHOICE");
        ClaimChains x = withLeaves();
        int[] gates = {x.gate(BOTH, 0, 3), x.gate(EITHER, 0, 3), x.gate(UNLIKE, 0, 3), x.gate(NOT, 0, 0)};
        int[][] want = {{0, 0, 0, 1}, {0, 1, 1, 1}, {0, 1, 1, 0}, {1, 0, 1, 0}};
        int[] states = {0, 1, 8, 9};
        for (int g = 0; g < 4; g++) {
            for (int k = 0; k < 4; k++) due("gate " + g + " in " + states[k], x.value(gates[g], states[k], 0), want[g][k]);
        }
        int choice = x.choice(2, 1, 0);
        for (int s = 0; s < 8; s++) due("CHOICE in " + s, x.value(choice, s, 0), s >= 4 ? s >> 1 & 1 : s & 1);
    }

    private static void holdsBounds() {
        of(8, "UNKNOWN; OUTSIDE");
        termBounds(Fixtures::withLeaves, call("holds", 0, 0), 0, UNKNOWN);
        bounds(Fixtures::withLeaves, call("holds", 0, 0), 1, 0, 3, OUTSIDE);
        due("UNKNOWN and OUTSIDE", withLeaves().holds(8, 4), UNKNOWN);
    }

    private static void holdsNowhereAndEverywhere() {
        of(8, "The set of STATES");
        ClaimChains x = withLeaves();
        for (int row = 0; row < 4; row++) {
            due("0", x.holds(ZERO, row), 0);
            due("1", x.holds(ONE, row), ALL);
            due("INPUT 0", x.holds(IN0, row), row % 2 == 1 ? ALL : 0);
            due("INPUT 1", x.holds(IN1, row), row > 1 ? ALL : 0);
        }
        due("in the least alone", x.holds(just(x, 0), 0), 1);
        due("in the greatest alone", x.holds(just(x, 15), 3), 1 << 15);
    }

    private static void alikeBounds() {
        of(9, "UNKNOWN");
        termBounds(Fixtures::withLeaves, call("alike", 0, 0), 0, UNKNOWN);
        termBounds(Fixtures::withLeaves, call("alike", 0, 0), 1, UNKNOWN);
        due("both", withLeaves().alike(8, 8), UNKNOWN);
        due("both, though they are the same number", withLeaves().alike(-1, -1), UNKNOWN);
    }

    /** Two TERMS that are apart in one STATE with one ROW alone, in each of the four corners. */
    private static void alikeInAllButOne() {
        of(9, "in all STATES with all ROWS");
        for (int corner = 0; corner < 4; corner++) {
            ClaimChains x = withLeaves();
            int state = just(x, corner % 2 == 0 ? 0 : 15);
            int first = corner < 2 ? x.gate(NOT, IN0, 0) : IN0, second = corner < 2 ? x.gate(NOT, IN1, 0) : IN1;
            int alone = x.gate(BOTH, state, x.gate(BOTH, first, second));
            due("corner " + corner, x.alike(alone, ZERO), 0);
            due("corner " + corner + ", the other way", x.alike(ZERO, alone), 0);
            due("NOT of it", x.alike(x.gate(NOT, alone, 0), ONE), 0);
            due("itself", x.alike(alone, alone), 1);
            due("none is left", x.alike(x.gate(BOTH, alone, x.gate(NOT, alone, 0)), ZERO), 1);
        }
    }

    private static void aNewObject() {
        aNewObjectHasNoTerms();
        ofANewObjectNothingIsTold();
        aNewObjectsBoxesHaveNothing();
        the512thCall();
    }

    private static void makingTerms() {
        leafKindAndNumber();
        leavesComeOnce();
        leafWhenFull();
        gateKind();
        gateParts();
        gateNotHasOnePart();
        gatesComeOnce();
        gateWhenFull();
        choiceParts();
        choicesComeOnce();
        choiceWhenFull();
    }

    private static void askingTerms() {
        ofTermBounds();
        ofTermWithoutParts();
        ofTermNamesNoneOrAll();
        ofTermHowDeep();
        leavesOneToAll();
        leavesOfNoTerm();
        valueBounds();
        valueInTheLeastAndTheGreatest();
        valueOfGates();
        holdsBounds();
        holdsNowhereAndEverywhere();
        alikeBounds();
        alikeInAllButOne();
    }

    public static void main(String[] args) {
        begin("TermsEdgesTest");
        aNewObject();
        makingTerms();
        askingTerms();
        end();
    }
}
