/** The boundary cases of promises 20 to 30: chains and lemmas. */
public final class LemmasEdgesTest extends Edges {
    /** The wheel without STARTS, with two BROKEN states: no chain to them is longer than 7. */
    private static ClaimChains halvedWheel() {
        ClaimChains x = wheel();
        x.claim(x.gate(NOT, x.gate(BOTH, 0, x.gate(BOTH, 1, 2)), 0));
        x.starts(ZERO);
        return x;
    }

    /** All states stay but one, from which each step leads to 15, the BROKEN one. */
    private static ClaimChains allStayBut(int from) {
        ClaimChains x = withLeaves();
        int there = just(x, from);
        for (int v = 0; v < 4; v++) x.next(v, x.gate(EITHER, v, there));
        x.claim(x.gate(NOT, just(x, 15), 0));
        return x;
    }

    /** All states but 15 are STARTS and stay; 15 leads to 0, the BROKEN one. */
    private static ClaimChains onlyTheGreatest() {
        ClaimChains x = withLeaves();
        int others = x.gate(NOT, just(x, 15), 0);
        x.starts(others);
        for (int v = 0; v < 4; v++) x.next(v, x.gate(BOTH, v, others));
        x.claim(x.gate(NOT, just(x, 0), 0));
        return x;
    }

    private static ClaimChains withLemmas(ClaimChains x, int count) {
        for (int k = 0; k < count; k++) x.lemma(ONE);
        return x;
    }

    private static void clearBounds() {
        of(20, "k (0 .. 16); OUTSIDE");
        bounds(Fixtures::counter, call("clear", 0), 0, 0, 16, OUTSIDE);
        bounds(ClaimChains::new, call("clear", 0), 0, 0, 16, OUTSIDE);
        of(20, "no BROKEN STATE has a DISTANCE that is less than k");
        for (int far = 0; far <= 15; far++) {
            ClaimChains x = wheelTo(far);
            for (int k = 0; k <= 16; k++) due("DISTANCE " + far + ", k " + k, x.clear(k), k <= far ? 1 : 0);
        }
        ClaimChains y = withLeaves();
        y.claim(ZERO);
        due("all are BROKEN: 0", y.clear(0), 1);
        due("all are BROKEN: 1", y.clear(1), 0);
        y.starts(ZERO);
        due("none is MET", y.clear(16), 1);
    }

    private static void shutBounds() {
        of(21, "k (0 .. 8); OUTSIDE");
        bounds(Fixtures::counter, call("shut", 0), 0, 0, 8, OUTSIDE);
        bounds(ClaimChains::new, call("shut", 0), 0, 0, 8, OUTSIDE);
    }

    private static void shutNoneAndAll() {
        of(21, "there is no CHAIN of k");
        ClaimChains x = withLeaves();
        x.claim(ZERO);
        for (int k = 0; k <= 8; k++) due("all are BROKEN: " + k, x.shut(k), k == 0 ? 0 : 1);
        x.claim(ONE);
        for (int k = 0; k <= 8; k++) due("none is BROKEN: " + k, x.shut(k), 1);
        ClaimChains y = halvedWheel(), z = longest();
        for (int k = 0; k <= 8; k++) {
            due("of 7 at most: " + k, y.shut(k), k <= 7 ? 0 : 1);
            due("of 15 at most: " + k, z.shut(k), 0);
        }
        ClaimChains staying = allStayBut(0);
        for (int k = 0; k <= 8; k++) due("from 0 to 15 alone: " + k, staying.shut(k), k <= 1 ? 0 : 1);
    }

    /** 0 and 1 lead to each other, and 0 with the last ROW to 2, the only BROKEN one. */
    private static void shutRoundAndRound() {
        of(21, "no two of them the same");
        ClaimChains x = withLeaves();
        int last = x.gate(BOTH, IN0, IN1), at0 = just(x, 0), at1 = just(x, 1);
        x.next(0, x.choice(at0, x.gate(NOT, last, 0), x.gate(BOTH, 0, x.gate(NOT, at1, 0))));
        x.next(1, x.gate(EITHER, 1, x.gate(BOTH, at0, last)));
        x.claim(x.gate(NOT, just(x, 2), 0));
        due("from 0", x.step(0, 0) * 16 + x.step(0, 3), 16 + 2);
        due("from 1", x.step(1, 0) * 16 + x.step(1, 3), 0);
        for (int k = 0; k <= 8; k++) due("shut(" + k + ")", x.shut(k), k <= 2 ? 0 : 1);
        due("of 2 from 1", x.chain(2, 0, 0), 1);
    }

    private static void settleBounds() {
        of(22, "a limit (0 .. 8); OUTSIDE");
        bounds(Fixtures::counter, call("settle", 0), 0, 0, 8, OUTSIDE);
        bounds(ClaimChains::new, call("settle", 0), 0, 0, 8, OUTSIDE);
    }

    private static void settleLeastAndGreatest() {
        of(22, "100 and the least DISTANCE; NONE: none is");
        for (int far = 0; far <= 15; far++) {
            ClaimChains x = wheelTo(far);
            for (int limit = 0; limit <= 8; limit++) {
                due("DISTANCE " + far + ", limit " + limit, x.settle(limit), limit <= far ? NONE : 100 + far);
            }
        }
        of(22, "k, as it is SHUT; NONE: none is");
        ClaimChains y = halvedWheel();
        for (int limit = 0; limit <= 8; limit++) due("limit " + limit, y.settle(limit), limit < 8 ? NONE : 8);
        ClaimChains z = withLeaves();
        for (int limit = 0; limit <= 8; limit++) due("nothing is BROKEN, limit " + limit, z.settle(limit), 0);
    }

    private static void settleBothAtOnce() {
        of(22, "the first of these that is so");
        ClaimChains x = withLeaves();
        x.claim(ZERO);
        due("1 is SHUT and not CLEAR", x.shut(1) - x.clear(1), 1);
        due("1 is SHUT and not CLEAR", x.settle(1), 100);
        due("up to 8", x.settle(8), 100);
        due("0 is CLEAR and not SHUT", x.settle(0), NONE);
        x.starts(ZERO);
        due("1 is SHUT and CLEAR", x.settle(8), 1);
        ClaimChains y = wheelTo(7);
        y.claim(y.gate(NOT, y.gate(BOTH, 0, y.gate(BOTH, 1, 2)), 0));
        due("8 is SHUT and not CLEAR", y.shut(8) - y.clear(8), 1);
        due("8 is SHUT and not CLEAR", y.settle(8), 107);
    }

    private static void chainBounds() {
        of(23, "OUTSIDE");
        for (ClaimChains x : new ClaimChains[] {longest(), new ClaimChains()}) {
            bounds(() -> x, call("chain", 0, 0, 0), 0, 0, 8, OUTSIDE);
            bounds(() -> x, call("chain", 8, 0, 0), 1, 0, 8, OUTSIDE);
            bounds(() -> x, call("chain", 8, 0, 0), 2, 0, 1, OUTSIDE);
        }
        ClaimChains x = longest();
        due("k and i", x.chain(9, 9, 0), OUTSIDE);
        due("i and what", x.chain(0, 9, 2), OUTSIDE);
        due("i beyond this CHAIN, and what", x.chain(0, 8, 2), OUTSIDE);
        due("k and i beyond this CHAIN", x.chain(-1, 8, 0), OUTSIDE);
    }

    private static void chainEnds() {
        of(23, "NONE: there are not so many, there is no CHAIN");
        ClaimChains x = longest();
        for (int k = 0; k <= 8; k++) {
            due("STATE 0 of " + k, x.chain(k, 0, 0), 15 - k);
            due("last STATE of " + k, x.chain(k, k, 0), 15);
            if (k < 8) due("one more STATE of " + k, x.chain(k, k + 1, 0), NONE);
            if (k > 0) due("last ROW of " + k, x.chain(k, k - 1, 1), 0);
            due("one more ROW of " + k, x.chain(k, k, 1), NONE);
            due("STATE 8 of " + k, x.chain(k, 8, 0), k == 8 ? 15 : NONE);
            due("ROW 8 of " + k, x.chain(k, 8, 1), NONE);
        }
        ClaimChains y = halvedWheel();
        due("of 7", y.chain(7, 0, 0), 0);
        due("of 7", y.chain(7, 7, 0), 7);
        for (int i = 0; i <= 8; i++) due("of 8: none", y.chain(8, i, 0) + y.chain(8, i, 1), 2 * NONE);
        ClaimChains z = withLeaves();
        z.claim(ZERO);
        due("all are BROKEN", z.chain(0, 0, 0), 0);
        due("all are BROKEN", z.chain(1, 0, 0), NONE);
    }

    private static void chainRows() {
        of(23, "the ROW of the STEP from that");
        ClaimChains x = withLeaves();
        x.next(3, x.gate(BOTH, IN0, IN1));
        x.claim(x.gate(NOT, 3, 0));
        due("by the greatest ROW alone", x.chain(1, 0, 1), 3);
        x.next(3, ONE);
        due("by all: the least", x.chain(1, 0, 1), 0);
        x.next(0, IN1);
        due("by all: the least, though others lead elsewhere", x.chain(1, 0, 1), 0);
        due("to", x.chain(1, 1, 0), 8);
    }

    /** The GOOD states are the same ahead of the lemma and behind it; the BROKEN ones that are in it are others. */
    private static void chainToLemmas() {
        of(23, "the last is BROKEN and in all LEMMAS");
        ClaimChains x = withLeaves();
        int claim = x.gate(NOT, 3, 0);
        x.starts(claim);
        x.claim(claim);
        due("of 0", x.chain(0, 0, 0), 8);
        due("a LEMMA without the BROKEN ones", x.lemma(claim), 0);
        due("of 0", x.chain(0, 0, 0), NONE);
        due("no LEMMA", x.back(), 0);
        due("of 0", x.chain(0, 0, 0), 8);
        due("a LEMMA with all but the first of the BROKEN ones", x.lemma(x.gate(EITHER, claim, 0)), 0);
        due("of 0", x.chain(0, 0, 0), 9);
    }

    private static void weakBounds() {
        of(24, "OUTSIDE");
        bounds(Fixtures::counter, call("weak", 0), 0, 0, 1, OUTSIDE);
        bounds(ClaimChains::new, call("weak", 0), 0, 0, 1, OUTSIDE);
        of(24, "The set of WEAK STATES, of GOOD ones");
        ClaimChains x = withLeaves();
        for (int v = 0; v < 4; v++) x.next(v, ONE);
        x.claim(x.gate(NOT, just(x, 15), 0));
        due("all GOOD ones are WEAK", x.weak(0), 0x7FFF);
        due("GOOD", x.weak(1), 0x7FFF);
        x.claim(just(x, 15));
        due("the only GOOD one stays", x.weak(0), 0);
        due("GOOD", x.weak(1), 1 << 15);
        x.claim(ZERO);
        due("all are BROKEN", x.weak(0) + x.weak(1), 0);
        x.claim(ONE);
        due("none is BROKEN", x.weak(0), 0);
        due("none is BROKEN", x.weak(1), ALL);
        ClaimChains y = withLeaves();
        y.next(3, y.gate(BOTH, IN0, IN1));
        y.claim(y.gate(NOT, 3, 0));
        due("with the greatest ROW alone", y.weak(0), 0x00FF);
    }

    private static void strengthenNone() {
        of(25, "NONE: no STATE is WEAK");
        due("nothing told", new ClaimChains().strengthen(), NONE);
        ClaimChains x = withLemmas(withLeaves(), 8);
        due("NONE and FULL", x.strengthen(), NONE);
        due("no LEMMA comes", x.many(1), 8);
        ClaimChains y = withLeaves();
        y.claim(ZERO);
        due("all are BROKEN", y.strengthen(), NONE);
        due("no LEMMA comes", y.many(1), 0);
    }

    private static void strengthenRefused() {
        of(25, "STATE: none of them is as told");
        ClaimChains x = counter();
        due("each is come to from a GOOD one", x.strengthen(), STATE);
        ClaimChains y = withLemmas(counter(), 8);
        due("STATE and FULL", y.strengthen(), STATE);
        ClaimChains z = allStayBut(5);
        due("all are STARTS", z.strengthen(), STATE);
        due("no LEMMA comes", x.many(1) + z.many(1), 0);
        of(25, "FULL");
        ClaimChains full = withLemmas(shifter(), 8);
        due("FULL", full.strengthen(), FULL);
        due("no ninth LEMMA", full.many(1), 8);
        due("no ninth LEMMA", full.ofLemma(8, 0), UNKNOWN);
        due("GOOD", full.weak(1), 0x00FF);
        full.back();
        due("the eighth LEMMA", full.strengthen(), 17);
        due("its CUBE", full.ofLemma(7, 2), 17);
        due("FULL", full.strengthen(), FULL);
    }

    private static void strengthenLeastAndGreatest() {
        of(25, "16 times the set of NAMES of the CUBE, and its part");
        ClaimChains x = allStayBut(0);
        x.starts(ZERO);
        due("no STARTS: no NAMES are left", x.strengthen(), 0);
        due("no STATES are in it", x.ofLemma(0, 1), 0);
        due("none is GOOD any more", x.weak(1), 0);
        due("none is WEAK any more", x.strengthen(), NONE);
        ClaimChains y = onlyTheGreatest();
        due("15, of which nothing can go", y.strengthen(), 255);
        due("all but 15 are in it", y.ofLemma(0, 0), 0x7FFF);
        ClaimChains z = allStayBut(0);
        z.starts(z.gate(EITHER, z.gate(EITHER, 0, 1), z.gate(EITHER, 2, 3)));
        due("0, of which nothing can go", z.strengthen(), 240);
        due("all but 0 are in it", z.ofLemma(0, 0), 0xFFFE);
    }

    private static void strengthenTakesTheLeast() {
        of(25, "the least WEAK STATE is taken for which the set of all other STATES FITS");
        ClaimChains x = withLeaves();
        x.starts(x.gate(BOTH, 0, x.gate(NOT, 3, 0)));
        x.next(3, ONE);
        x.claim(x.gate(NOT, 3, 0));
        due("WEAK", x.weak(0), 0x00FF);
        due("0 is no START: it, and all without variable 0", x.strengthen(), 16);
        due("1 is a START, and so are all that are left", x.strengthen(), STATE);
        ClaimChains y = withLeaves();
        y.starts(y.gate(NOT, y.gate(BOTH, 0, 1), 0));
        y.next(3, ONE);
        y.claim(y.gate(NOT, 3, 0));
        due("0 to 2 are STARTS, 3 is none", y.strengthen(), 16 * 3 + 3);
        of(25, "VARIABLES 0, 1, 2, 3 one by one");
        ClaimChains z = allStayBut(0);
        z.starts(just(z, 3));
        due("0 goes, so 1 must stay", z.strengthen(), 16 * 2);
        z.starts(just(z, 12));
        due("0, 1, 2 go, so 3 must stay", z.strengthen(), 16 * 8);
    }

    private static void lemmaTerms() {
        of(26, "UNKNOWN");
        termBounds(Fixtures::counter, call("lemma", 0), 0, UNKNOWN);
        due("no TERMS", new ClaimChains().lemma(0), UNKNOWN);
        of(26, "OUTSIDE: it NAMES an INPUT");
        ClaimChains x = withLeaves();
        int everywhere = x.gate(NOT, x.gate(UNLIKE, IN1, IN1), 0), nowhere = x.gate(UNLIKE, IN0, IN0);
        due("INPUT 0", x.lemma(IN0), OUTSIDE);
        due("INPUT 1", x.lemma(IN1), OUTSIDE);
        due("1 everywhere", x.lemma(everywhere), OUTSIDE);
        due("OUTSIDE and STATE", x.lemma(nowhere), OUTSIDE);
        due("no LEMMA comes", x.many(1), 0);
    }

    private static void lemmaFits() {
        of(26, "STATE: they do not FIT");
        ClaimChains x = withLeaves();
        due("not all STARTS are in it", x.lemma(0), STATE);
        x.starts(just(x, 15));
        due("the START is in it", x.lemma(0), 0);
        x.back();
        due("just the START", x.lemma(just(x, 15)), 0);
        x.next(2, x.gate(NOT, x.gate(BOTH, IN0, IN1), 0));
        due("a STEP with the greatest ROW alone leads out", x.lemma(just(x, 15)), STATE);
        x.claim(x.gate(NOT, 3, 0));
        due("it leads from a BROKEN one", x.lemma(just(x, 15)), 0);
        x.back();
        x.claim(ONE);
        x.starts(ZERO);
        due("no STATES, no STARTS", x.lemma(ZERO), 0);
        due("then none is GOOD: each set FITS", x.lemma(just(x, 15)), 1);
        due("no LEMMA but these", x.many(1), 2);
    }

    private static void lemmaWhenFull() {
        of(26, "FULL");
        ClaimChains x = shifter();
        for (int k = 0; k < 8; k++) due("LEMMA " + k, x.lemma(ONE), k);
        due("the ninth", x.lemma(ONE), FULL);
        due("another ninth", x.lemma(x.gate(NOT, 0, 0)), FULL);
        due("STATE and FULL", x.lemma(ZERO), STATE);
        due("OUTSIDE and FULL", x.lemma(IN0), OUTSIDE);
        due("UNKNOWN and FULL", x.lemma(40), UNKNOWN);
        due("eight", x.many(1), 8);
        due("GOOD", x.weak(1), 0x00FF);
        due("one less", x.back(), 7);
        due("the eighth again", x.lemma(x.gate(NOT, 0, 0)), 7);
        due("GOOD", x.weak(1), 0x0055);
    }

    /** The shifter with boxes: 0 has two terms, 1 none in its places, 2 no places, 3 nothing. */
    private static ClaimChains withBoxes() {
        ClaimChains x = shifter();
        x.box(0, 0, 2);
        layRow(x, 0, 0, 1);
        x.box(1, 0, 3);
        x.box(2, 0, 0);
        return x;
    }

    private static void dueBlocked(ClaimChains x, int box, long want, int fault) {
        due("block(" + box + ")", x.block(box), want);
        due("fault()", x.fault(), fault);
    }

    private static void blockBoxes() {
        of(27, "UNKNOWN");
        bounds(LemmasEdgesTest::withBoxes, call("block", 0), 0, 0, 3, UNKNOWN);
        of(27, "FAULT NULL: the BOX has nothing");
        ClaimChains x = withBoxes();
        dueBlocked(x, 3, NULL, 1);
        dueBlocked(x, 4, UNKNOWN, 0);
        dueBlocked(x, 3, NULL, 1);
        dueBlocked(x, 0, 0, 0);
        dueBlocked(x, 3, NULL, 1);
        due("NULL and FULL", withLemmas(withBoxes(), 8).block(3), NULL);
        due("UNKNOWN and FULL", withLemmas(withBoxes(), 8).block(-1), UNKNOWN);
        due("one LEMMA has come", x.many(1), 1);
    }

    private static void blockPlaces() {
        of(27, "place by place FAULT NULL: there is no TERM, OUTSIDE: it NAMES an INPUT");
        ClaimChains x = withBoxes();
        dueBlocked(x, 1, NULL, 1);
        layRow(x, 1, 0, IN0);
        dueBlocked(x, 1, OUTSIDE, 0);
        layRow(x, 1, 0, 0);
        dueBlocked(x, 1, NULL, 1);
        x.box(1, 0, 3);
        layRow(x, 1, IN1);
        dueBlocked(x, 1, OUTSIDE, 0);
        layRow(x, 1, 0, 0, IN1);
        dueBlocked(x, 1, OUTSIDE, 0);
        x.box(1, 0, 8);
        layRow(x, 1, 0, 0, 0, 0, 0, 0, 0);
        dueBlocked(x, 1, NULL, 1);
        x.lay(1, 7, x.gate(BOTH, ZERO, IN1));
        dueBlocked(x, 1, OUTSIDE, 0);
        due("no LEMMA comes", x.many(1), 0);
        x.lay(1, 7, 1);
        dueBlocked(x, 1, 0, 0);
        due("the last place counts", x.ofLemma(0, 0), 0x7777);
    }

    private static void blockTwoAtOnce() {
        of(27, "STATE: they do not FIT; FULL");
        ClaimChains x = withBoxes();
        x.box(1, 0, 2);
        layRow(x, 1, ONE);
        dueBlocked(x, 1, NULL, 1);
        x.lay(1, 1, IN0);
        dueBlocked(x, 1, OUTSIDE, 0);
        x.take(3, 0);
        x.lay(1, 1, ONE);
        dueBlocked(x, 1, STATE, 0);
        dueBlocked(x, 2, STATE, 0);
        withLemmas(x, 7);
        dueBlocked(x, 0, 7, 0);
        dueBlocked(x, 0, FULL, 0);
        dueBlocked(x, 1, STATE, 0);
        x.lay(1, 1, IN0);
        dueBlocked(x, 1, OUTSIDE, 0);
        x.box(1, 0, 2);
        dueBlocked(x, 1, NULL, 1);
        due("eight", x.many(1), 8);
    }

    private static void blockNoneAndAll() {
        of(27, "The STATES in which not all TERMS of a BOX are 1");
        ClaimChains x = withBoxes();
        x.starts(ZERO);
        dueBlocked(x, 2, 0, 0);
        due("of no TERMS: no STATES", x.ofLemma(0, 0), 0);
        x.back();
        x.box(2, 1, 1);
        x.lay(2, 0, ZERO);
        dueBlocked(x, 2, 0, 0);
        due("of 0: all STATES", x.ofLemma(0, 0), ALL);
        due("no CUBE", x.ofLemma(0, 2), NONE);
        due("the BOX stays", x.take(2, 0), ZERO);
    }

    private static void backToNone() {
        of(28, "STATE: there is none");
        due("nothing told", new ClaimChains().back(), STATE);
        ClaimChains x = withLemmas(shifter(), 8);
        for (int left = 7; left >= 0; left--) due("left", x.back(), left);
        for (int k = 0; k < 3; k++) due("none", x.back(), STATE);
        due("none", x.many(1), 0);
        due("the first again", x.lemma(ONE), 0);
        due("none is left", x.back(), 0);
        x.lemma(ONE);
        x.claim(ONE);
        due("none any more", x.back(), STATE);
        of(28, "The last LEMMA is no more");
        ClaimChains y = shifter();
        y.strengthen();
        y.strengthen();
        due("one is left", y.back(), 1);
        due("the first", y.ofLemma(0, 2), 17);
        due("the second", y.ofLemma(1, 2), UNKNOWN);
        due("GOOD", y.many(4), 4);
        y.strengthen();
        y.strengthen();
        due("none is WEAK, with three", y.weak(0), 0);
        due("two are left", y.back(), 2);
        due("GOOD are in both of them", y.weak(1), 0x0011);
    }

    private static void ofLemmaBounds() {
        of(29, "UNKNOWN; OUTSIDE");
        for (int count = 0; count <= 8; count++) {
            int many = count;
            bounds(() -> withLemmas(shifter(), many), call("ofLemma", 0, 0), 0, 0, count - 1, UNKNOWN);
        }
        bounds(() -> withLemmas(shifter(), 8), call("ofLemma", 7, 0), 1, 0, 2, OUTSIDE);
        ClaimChains x = withLemmas(shifter(), 1);
        due("UNKNOWN and OUTSIDE", x.ofLemma(1, 3), UNKNOWN);
        due("UNKNOWN and OUTSIDE", x.ofLemma(-1, -1), UNKNOWN);
        of(29, "0 the set, 1 how many STATES, 2 its CUBE");
        due("all", x.ofLemma(0, 0), ALL);
        due("16", x.ofLemma(0, 1), 16);
        due("no CUBE", x.ofLemma(0, 2), NONE);
        x.starts(ZERO);
        x.lemma(ZERO);
        due("none", x.ofLemma(0, 0), 0);
        due("0", x.ofLemma(0, 1), 0);
        ClaimChains y = onlyTheGreatest();
        y.strengthen();
        due("the greatest CUBE", y.ofLemma(0, 2), 255);
        y.starts(ZERO);
        y.strengthen();
        due("the least CUBE is not NONE", y.ofLemma(0, 2), 0);
        y.back();
        y.lemma(ZERO);
        due("the same set, but by lemma()", y.ofLemma(0, 2), NONE);
    }

    private static void closedAtItsEdges() {
        of(30, "all STARTS are GOOD, and no STATE is WEAK");
        due("nothing told", new ClaimChains().closed(), 1);
        ClaimChains x = withLeaves();
        x.claim(x.gate(NOT, just(x, 15), 0));
        due("one START is BROKEN, none is WEAK", x.closed(), 0);
        x.starts(x.gate(NOT, just(x, 15), 0));
        due("all but the BROKEN one", x.closed(), 1);
        ClaimChains y = allStayBut(14);
        y.starts(just(y, 0));
        due("one is WEAK, though it is not MET", y.closed(), 0);
        y.strengthen();
        due("none is any more", y.closed(), 1);
        y.back();
        due("one is again", y.closed(), 0);
        y.starts(just(y, 15));
        due("BROKEN START and WEAK", y.closed(), 0);
        y.claim(ZERO);
        due("BROKEN START, none is WEAK", y.closed(), 0);
        y.starts(ZERO);
        due("no STARTS, none is WEAK", y.closed(), 1);
        ClaimChains z = withLeaves();
        z.claim(ZERO);
        z.starts(just(z, 3));
        z.lemma(just(z, 3));
        due("the START is in all LEMMAS, but BROKEN", z.closed(), 0);
    }

    private static void chains() {
        clearBounds();
        shutBounds();
        shutNoneAndAll();
        shutRoundAndRound();
        settleBounds();
        settleLeastAndGreatest();
        settleBothAtOnce();
        chainBounds();
        chainEnds();
        chainRows();
        chainToLemmas();
    }

    private static void lemmas() {
        weakBounds();
        strengthenNone();
        strengthenRefused();
        strengthenLeastAndGreatest();
        strengthenTakesTheLeast();
        lemmaTerms();
        lemmaFits();
        lemmaWhenFull();
        blockBoxes();
        blockPlaces();
        blockTwoAtOnce();
        blockNoneAndAll();
        backToNone();
        ofLemmaBounds();
        closedAtItsEdges();
    }

    public static void main(String[] args) {
        begin("LemmasEdgesTest");
        chains();
        lemmas();
        end();
    }
}
