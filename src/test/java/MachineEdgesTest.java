/** The boundary cases of promises 10 to 19: the machine. */
public final class MachineEdgesTest extends Edges {
    /** Leaves, a term of them that names an input though it is 0 everywhere, and one that names it far below. */
    private static ClaimChains withNamedInputs() {
        ClaimChains x = withLeaves();
        int nowhere = x.gate(UNLIKE, IN1, IN1);
        x.gate(BOTH, 0, x.gate(NOT, x.gate(EITHER, 1, nowhere), 0));
        return x;
    }

    /** Leaves and gates up to the 40th term; all but the inputs name none. */
    private static ClaimChains withAllTerms() {
        ClaimChains x = withLeaves();
        fillTerms(x);
        return x;
    }

    /** A machine of which all is told, with a lemma: what a refused call must leave. */
    private static ClaimChains told() {
        ClaimChains x = withNamedInputs();
        x.starts(0);
        x.next(0, 1);
        x.next(1, 0);
        x.next(2, IN0);
        x.next(3, ONE);
        x.claim(3);
        x.lemma(ONE);
        return x;
    }

    private static void dueAsTold(ClaimChains x) {
        due("lemmas", x.many(1), 1);
        due("STARTS", x.met(4), 0xAAAA);
        due("BROKEN", x.met(5), 0x00FF);
        due("step", x.step(2, 1), 1 + 4 + 8);
        due("starts were", x.starts(1), 0);
        int[] next = {1, 0, IN0, ONE};
        for (int v = 0; v < 4; v++) due("next was", x.next(v, v), next[v]);
        due("claim was", x.claim(1), 3);
    }

    private static void startsTerms() {
        of(10, "UNKNOWN");
        termBounds(MachineEdgesTest::withAllTerms, call("starts", 0), 0, UNKNOWN);
        due("no TERMS", new ClaimChains().starts(0), UNKNOWN);
        of(10, "OUTSIDE: it NAMES an INPUT");
        ClaimChains x = told();
        for (int t : new int[] {IN0, IN1, 8, 9, 10, 11}) due("starts(" + t + ")", x.starts(t), OUTSIDE);
        due("UNKNOWN", x.starts(12), UNKNOWN);
        dueAsTold(x);
    }

    private static void startsNoneAndAll() {
        of(10, "which it was, or NONE");
        ClaimChains x = withAllTerms();
        due("none was told", x.starts(39), NONE);
        due("the last TERM", x.starts(0), 39);
        due("the first TERM", x.starts(ZERO), 0);
        due("no STARTS", x.met(4), 0);
        due("again", x.starts(ZERO), ZERO);
        due("then all", x.starts(ONE), ZERO);
        due("all STARTS", x.met(4), ALL);
        due("the claim is not told", x.claim(ONE), NONE);
    }

    private static void tellingEndsLemmas() {
        of(10, "LEMMAS are no more, as soon as a TERM is told for STARTS");
        ClaimChains x = told();
        due("the same", x.starts(0), 0);
        due("lemmas", x.many(1), 0);
        of(11, "LEMMAS are no more, as soon as a TERM is told for a VARIABLE's NEXT");
        for (int v = 0; v < 4; v++) {
            ClaimChains y = told();
            y.next(v, y.next(v, v));
            due("lemmas", y.many(1), 0);
            due("none is left to go", y.back(), STATE);
        }
        of(12, "LEMMAS are no more, as soon as a TERM is told as the CLAIM");
        ClaimChains z = told();
        due("the same", z.claim(3), 3);
        due("lemmas", z.many(1), 0);
        due("GOOD", z.many(4), 8);
    }

    private static void nextVariablesAndTerms() {
        of(11, "UNKNOWN: VARIABLE, TERM");
        bounds(MachineEdgesTest::withAllTerms, call("next", 0, 0), 0, 0, 3, UNKNOWN);
        for (int v = 0; v < 4; v++) termBounds(MachineEdgesTest::withAllTerms, call("next", v, 0), 1, UNKNOWN);
        ClaimChains x = told();
        due("VARIABLE and TERM", x.next(4, 12), UNKNOWN);
        due("VARIABLE and TERM", x.next(LOW, HIGH), UNKNOWN);
        due("VARIABLE", x.next(-1, 0), UNKNOWN);
        due("TERM", x.next(3, -1), UNKNOWN);
        due("TERM: NONE is none", x.next(3, NONE), UNKNOWN);
        dueAsTold(x);
        due("no TERMS", new ClaimChains().next(0, 0), UNKNOWN);
    }

    private static void nextWas() {
        of(11, "which it was, or NONE");
        for (int v = 0; v < 4; v++) {
            ClaimChains x = withAllTerms();
            due("none was told", x.next(v, 39), NONE);
            due("the last TERM", x.next(v, IN1), 39);
            due("it may NAME an INPUT", x.next(v, 0), IN1);
            due("the first TERM", x.next(v, v), 0);
            for (int w = 0; w < 4; w++) due("of " + w, x.next(w, ONE), w == v ? v : NONE);
        }
    }

    private static void claimTerms() {
        of(12, "UNKNOWN");
        termBounds(MachineEdgesTest::withAllTerms, call("claim", 0), 0, UNKNOWN);
        due("no TERMS", new ClaimChains().claim(0), UNKNOWN);
        of(12, "OUTSIDE: it NAMES an INPUT");
        ClaimChains x = told();
        for (int t : new int[] {IN0, IN1, 8, 9, 10, 11}) due("claim(" + t + ")", x.claim(t), OUTSIDE);
        due("UNKNOWN", x.claim(12), UNKNOWN);
        dueAsTold(x);
    }

    private static void claimNoneAndAll() {
        of(12, "which it was, or NONE");
        ClaimChains x = withAllTerms();
        due("none was told", x.claim(39), NONE);
        due("the last TERM", x.claim(0), 39);
        due("the first TERM", x.claim(ZERO), 0);
        due("all are BROKEN", x.met(5), ALL);
        due("again", x.claim(ZERO), ZERO);
        due("then none", x.claim(ONE), ZERO);
        due("none is BROKEN", x.met(5), 0);
        due("the starts are not told", x.starts(ONE), NONE);
    }

    private static void stepBounds() {
        of(13, "OUTSIDE");
        bounds(Fixtures::counter, call("step", 0, 0), 0, 0, 15, OUTSIDE);
        bounds(Fixtures::counter, call("step", 0, 0), 1, 0, 3, OUTSIDE);
        due("state and row", counter().step(16, 4), OUTSIDE);
        of(13, "the STATE to which the STEP leads");
        ClaimChains x = wheel();
        due("from the greatest to the least", x.step(15, 3), 0);
        due("from the least", x.step(0, 0), 1);
        due("to the greatest", x.step(14, 3), 15);
        ClaimChains y = withLeaves();
        y.next(3, IN1);
        y.next(0, IN0);
        for (int row = 0; row < 4; row++) {
            due("the rest stay", y.step(6, row), 6 + (row & 1) + (row >> 1) * 8);
            due("the rest stay", y.step(9, row), (row & 1) + (row >> 1) * 8);
        }
    }

    private static void beforeBounds() {
        of(14, "OUTSIDE");
        bounds(Fixtures::counter, call("before", 0), 0, 0, 15, OUTSIDE);
        of(14, "The set of STATES");
        ClaimChains x = withLeaves();
        for (int v = 0; v < 4; v++) x.next(v, ONE);
        due("all", x.before(15), ALL);
        for (int s = 0; s < 15; s++) due("none", x.before(s), 0);
        for (int v = 0; v < 4; v++) x.next(v, ZERO);
        due("all", x.before(0), ALL);
        due("none", x.before(15), 0);
        ClaimChains y = wheel();
        due("the greatest alone", y.before(0), 1 << 15);
        due("the least alone", y.before(1), 1);
        ClaimChains z = withLeaves();
        z.next(0, z.gate(BOTH, IN0, IN1));
        due("with the last ROW alone", z.before(1), 3);
        due("with the ROWS ahead of it", z.before(0), 3);
        z.next(0, z.gate(NOT, z.gate(EITHER, IN0, IN1), 0));
        due("with the first ROW alone", z.before(1), 3);
        due("with the ROWS behind it", z.before(0), 3);
    }

    private static void distanceBounds() {
        of(15, "OUTSIDE");
        bounds(Fixtures::counter, call("distance", 0), 0, 0, 15, OUTSIDE);
        of(15, "DISTANCE; NONE: it is not MET");
        ClaimChains x = wheel();
        due("the least", x.distance(0), 0);
        due("the greatest", x.distance(15), 15);
        x.starts(3);
        for (int s = 0; s < 16; s++) due("all from 8 on are STARTS", x.distance(s), s < 8 ? s + 1 : 0);
        x.starts(ZERO);
        for (int s = 0; s < 16; s++) due("no STARTS", x.distance(s), NONE);
        x.starts(ONE);
        for (int s = 0; s < 16; s++) due("all are STARTS", x.distance(s), 0);
        x.starts(just(x, 0));
        x.next(0, x.gate(NOT, x.gate(EITHER, IN0, IN1), 0));
        due("by the first ROW alone", x.distance(1), 1);
        ClaimChains y = counter();
        due("not MET", y.distance(4), NONE);
        due("not MET", y.distance(15), NONE);
        due("BROKEN ones are gone through", y.distance(3), 3);
    }

    private static void metBounds() {
        of(16, "OUTSIDE");
        bounds(Fixtures::counter, call("met", 0), 0, 0, 5, OUTSIDE);
        bounds(ClaimChains::new, call("met", 0), 0, 0, 5, OUTSIDE);
    }

    private static void dueMet(ClaimChains x, int... want) {
        for (int what = 0; what < 6; what++) due("met(" + what + ")", x.met(what), want[what]);
    }

    private static void metNoneAndAll() {
        of(16, "NONE: none is MET; NONE: there is no WAY");
        ClaimChains x = longest();
        dueMet(x, 16, 15, ALL, 15, 1, 1 << 15);
        x.claim(ONE);
        dueMet(x, 16, 15, ALL, NONE, 1, 0);
        x.claim(ZERO);
        dueMet(x, 16, 15, ALL, 0, 1, ALL);
        x.starts(ZERO);
        dueMet(x, 0, NONE, 0, NONE, 0, ALL);
        x.starts(ONE);
        dueMet(x, 16, 0, ALL, 0, ALL, ALL);
        ClaimChains y = withLeaves();
        y.starts(just(y, 15));
        y.claim(3);
        dueMet(y, 1, 0, 1 << 15, NONE, 1 << 15, 0x00FF);
    }

    private static void wayBounds() {
        of(17, "OUTSIDE");
        bounds(Fixtures::counter, call("way", 0, 0), 0, 0, 15, OUTSIDE);
        bounds(Fixtures::counter, call("way", 0, 0), 1, 0, 1, OUTSIDE);
        bounds(ClaimChains::new, call("way", 0, 1), 0, 0, 15, OUTSIDE);
        bounds(ClaimChains::new, call("way", 15, 0), 1, 0, 1, OUTSIDE);
        due("k and what", counter().way(16, 2), OUTSIDE);
    }

    /** Ways of each length that there is: the last state and the last row, and the first beyond them. */
    private static void wayLengths() {
        of(17, "NONE: there are not so many, there is no WAY");
        for (int length = 0; length <= 15; length++) {
            ClaimChains x = wheelTo(length);
            due("length", x.met(3), length);
            for (int k = 0; k <= 15; k++) {
                due("STATE behind " + k + " of " + length, x.way(k, 0), k <= length ? k : NONE);
                due("ROW of " + k + " of " + length, x.way(k, 1), k < length ? 0 : NONE);
            }
        }
        ClaimChains y = shifter();
        for (int k = 0; k <= 15; k++) due("no WAY", y.way(k, 0) + y.way(k, 1), 2 * NONE);
    }

    /** Of several ways the least START, then the least ROW where they first differ. */
    private static void wayIsTheLeast() {
        of(17, "the least START, the least ROW where they first differ");
        ClaimChains x = withLeaves();
        x.starts(x.gate(NOT, 3, 0));
        x.next(3, x.gate(BOTH, 2, IN0));
        x.claim(x.gate(NOT, 3, 0));
        int[] want = {4, 1, 12, NONE};
        int[] got = {x.way(0, 0), x.way(0, 1), x.way(1, 0), x.way(1, 1)};
        for (int k = 0; k < 4; k++) due("part " + k, got[k], want[k]);
        x.next(2, x.gate(EITHER, IN1, IN0));
        x.starts(just(x, 0));
        int[] rows = {1, 1, NONE}, states = {0, 4, 12, NONE};
        for (int k = 0; k < 3; k++) due("ROW " + k, x.way(k, 1), rows[k]);
        for (int k = 0; k < 4; k++) due("STATE " + k, x.way(k, 0), states[k]);
        x.claim(ONE);
        due("no WAY any more", x.way(0, 0), NONE);
    }

    private static void looseWithoutAWay() {
        of(18, "STATE: there is no WAY");
        for (int k : new int[] {LOW, -2, -1, 0, 14, 15, 16, HIGH}) {
            due("nothing told", new ClaimChains().loose(k), STATE);
            due("no WAY (and OUTSIDE)", shifter().loose(k), STATE);
        }
        ClaimChains x = withLeaves();
        x.claim(ZERO);
        x.starts(ZERO);
        due("no STARTS", x.loose(-1), STATE);
    }

    private static void looseBounds() {
        of(18, "OUTSIDE: it has no such STEP");
        for (int length = 0; length <= 15; length++) {
            int broken = length;
            bounds(() -> wheelTo(broken), call("loose", 0), 0, -1, length - 1, OUTSIDE);
        }
    }

    private static void looseNoneAndAll() {
        of(18, "LOOSE bits: the set");
        ClaimChains x = withLeaves();
        x.claim(ZERO);
        due("all of the START", x.loose(-1), 15);
        x.starts(just(x, 0));
        due("none of the START: no other is one", x.loose(-1), 0);
        x.next(3, ONE);
        x.claim(x.gate(NOT, 3, 0));
        due("all of the ROW", x.loose(0), 3);
        x.next(3, x.gate(BOTH, IN0, IN1));
        due("ROW", x.way(0, 1), 3);
        due("none of the ROW", x.loose(0), 0);
        x.starts(x.gate(NOT, 3, 0));
        due("all that are STARTS", x.loose(-1), 7);
        ClaimChains y = longest();
        for (int k = 0; k < 15; k++) due("ROW " + k + " of 15", y.loose(k), 3);
        due("START of 15 STEPS", y.loose(-1), 0);
        y.starts(y.gate(NOT, 3, 0));
        due("START 7, the least, of 8 STEPS", y.met(3) * 16 + y.way(0, 0), 8 * 16 + 7);
        due("another START ends elsewhere", y.loose(-1), 0);
    }

    private static void coneBounds() {
        of(19, "OUTSIDE");
        bounds(Fixtures::counter, call("cone", 0), 0, 0, 1, OUTSIDE);
        bounds(ClaimChains::new, call("cone", 0), 0, 0, 1, OUTSIDE);
    }

    private static void dueCone(ClaimChains x, int variables, int inputs) {
        due("cone(0)", x.cone(0), variables);
        due("cone(1)", x.cone(1), inputs);
    }

    private static void coneNoneAndAll() {
        of(19, "The CONE, its INPUTS, as sets");
        ClaimChains x = withLeaves();
        for (int v = 0; v < 4; v++) x.next(v, v % 2 == 0 ? IN0 : IN1);
        dueCone(x, 0, 0);
        x.claim(ONE);
        dueCone(x, 0, 0);
        x.claim(3);
        dueCone(x, 8, 2);
        x.next(3, x.gate(UNLIKE, 2, 2));
        dueCone(x, 12, 1);
        x.next(2, x.gate(BOTH, 1, x.gate(BOTH, ZERO, IN0)));
        dueCone(x, 14, 3);
        x.next(1, 0);
        dueCone(x, 15, 1);
        x.next(0, 3);
        dueCone(x, 15, 1);
        ClaimChains y = withLeaves();
        y.claim(0);
        dueCone(y, 1, 0);
    }

    /** The longest line of variables, in each order: a round for each of them may be needed. */
    private static void coneGoesAllTheWay() {
        of(19, "with each one all that its NEXT TERM NAMES");
        int[][] orders = {{0, 1, 2, 3}, {3, 2, 1, 0}, {2, 0, 3, 1}, {1, 3, 0, 2}};
        for (int[] o : orders) {
            ClaimChains x = withLeaves();
            x.claim(o[0]);
            for (int k = 0; k < 3; k++) x.next(o[k], o[k + 1]);
            x.next(o[3], IN1);
            dueCone(x, 15, 2);
            x.next(o[1], ONE);
            dueCone(x, 1 << o[0] | 1 << o[1], 0);
        }
    }

    private static void telling() {
        startsTerms();
        startsNoneAndAll();
        tellingEndsLemmas();
        nextVariablesAndTerms();
        nextWas();
        claimTerms();
        claimNoneAndAll();
    }

    private static void asking() {
        stepBounds();
        beforeBounds();
        distanceBounds();
        metBounds();
        metNoneAndAll();
        wayBounds();
        wayLengths();
        wayIsTheLeast();
        looseWithoutAWay();
        looseBounds();
        looseNoneAndAll();
        coneBounds();
        coneNoneAndAll();
        coneGoesAllTheWay();
    }

    public static void main(String[] args) {
        begin("MachineEdgesTest");
        telling();
        asking();
        end();
    }
}
