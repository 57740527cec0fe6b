/** Promise by promise: ordinary inputs, the edges that the document names, and wrong inputs in their order. */
public final class PromisesTest extends Fixtures {
    private static final Answers answers = new Answers("PromisesTest");
    private static int promise = 0;

    private static void due(String call, long got, long want) {
        answers.due("promise " + promise + ": " + call, got, want);
    }

    private static void aNewObject() {
        ClaimChains x = new ClaimChains();
        due("many(0)", x.many(0), 0);
        due("many(1)", x.many(1), 0);
        due("many(2)", x.many(2), 16);
        due("many(3)", x.many(3), 0);
        due("many(4)", x.many(4), 16);
        due("many(5)", x.many(5), 0);
        due("fault()", x.fault(), 0);
        for (int s = 0; s < 16; s++) {
            for (int row = 0; row < 4; row++) due("step", x.step(s, row), s);
        }
        due("UNKNOWN", ClaimChains.UNKNOWN, -1);
        due("OUTSIDE", ClaimChains.OUTSIDE, -2);
        due("STATE", ClaimChains.STATE, -3);
        due("FULL", ClaimChains.FULL, -4);
        due("NONE", ClaimChains.NONE, -9);
        due("LOST", ClaimChains.LOST, LOST);
        withLeaves();
        due("another object's terms", x.many(0), 0);
    }

    private static void leaf() {
        ClaimChains x = new ClaimChains();
        due("leaf(1, 3)", x.leaf(1, 3), 0);
        due("leaf(0, 1)", x.leaf(0, 1), 1);
        due("leaf(2, 1)", x.leaf(2, 1), 2);
        due("leaf(1, 1)", x.leaf(1, 1), 3);
        due("leaf(2, 1) again", x.leaf(2, 1), 2);
        int[][] outside = {{-1, 0}, {3, 0}, {7, 0}, {LOW, 0}, {HIGH, 0}, {0, -1}, {0, 2}, {1, -1}, {1, 4}, {2, -1}, {2, 2},
            {1, HIGH}, {1, LOW}};
        for (int[] o : outside) due("leaf(" + o[0] + ", " + o[1] + ")", x.leaf(o[0], o[1]), OUTSIDE);
        due("terms", x.many(0), 4);
        fillTerms(x);
        due("a new one, full", x.leaf(1, 0), FULL);
        due("an elder one, full", x.leaf(1, 1), 3);
        due("OUTSIDE ahead of FULL", x.leaf(1, 4), OUTSIDE);
        due("terms", x.many(0), 40);
    }

    private static void gate() {
        ClaimChains x = withLeaves();
        due("NOT", x.gate(NOT, 0, HIGH), 8);
        due("NOT, b is not looked at", x.gate(NOT, 0, 1), 8);
        due("BOTH", x.gate(BOTH, 0, 1), 9);
        due("BOTH, parts the other way", x.gate(BOTH, 1, 0), 10);
        due("EITHER", x.gate(EITHER, 0, 1), 11);
        due("UNLIKE of the same", x.gate(UNLIKE, 2, 2), 12);
        due("elder", x.gate(BOTH, 0, 1), 9);
        for (int kind : new int[] {LOW, -1, 0, 1, 2, 7, 8, HIGH}) due("kind " + kind, x.gate(kind, 0, 0), OUTSIDE);
        due("OUTSIDE ahead of UNKNOWN", x.gate(7, 99, 99), OUTSIDE);
        due("a", x.gate(NOT, 13, 0), UNKNOWN);
        due("a", x.gate(BOTH, -1, 0), UNKNOWN);
        due("b", x.gate(BOTH, 0, 13), UNKNOWN);
        due("b", x.gate(UNLIKE, 0, LOW), UNKNOWN);
        due("terms", x.many(0), 13);
        fillTerms(x);
        due("UNKNOWN ahead of FULL", x.gate(EITHER, 0, 40), UNKNOWN);
        due("full", x.gate(EITHER, 2, 3), FULL);
        due("elder, full", x.gate(EITHER, 0, 1), 11);
    }

    private static void choice() {
        ClaimChains x = withLeaves();
        due("choice", x.choice(IN0, 0, 1), 8);
        due("other order", x.choice(IN0, 1, 0), 9);
        due("elder", x.choice(IN0, 0, 1), 8);
        due("a", x.choice(10, 0, 0), UNKNOWN);
        due("b", x.choice(0, -1, 0), UNKNOWN);
        due("c", x.choice(0, 0, HIGH), UNKNOWN);
        due("of choices", x.choice(8, 9, 8), 10);
        fillTerms(x);
        due("UNKNOWN ahead of FULL", x.choice(0, 0, 40), UNKNOWN);
        due("full", x.choice(0, 0, 0), FULL);
        due("elder, full", x.choice(8, 9, 8), 10);
    }

    private static void dueOfTerm(ClaimChains x, int t, int... want) {
        for (int what = 0; what < 7; what++) due("ofTerm(" + t + ", " + what + ")", x.ofTerm(t, what), want[what]);
    }

    private static void ofTerm() {
        ClaimChains x = withLeaves();
        dueOfTerm(x, 3, 1, 3, NONE, NONE, 8, 0, 0);
        dueOfTerm(x, IN1, 2, 1, NONE, NONE, 0, 2, 0);
        dueOfTerm(x, ONE, 0, 1, NONE, NONE, 0, 0, 0);
        int not = x.gate(NOT, 3, 0);
        dueOfTerm(x, not, NOT, 3, NONE, NONE, 8, 0, 1);
        int both = x.gate(BOTH, not, IN1);
        dueOfTerm(x, both, BOTH, not, IN1, NONE, 8, 2, 2);
        int choice = x.choice(0, 2, both);
        dueOfTerm(x, choice, 7, 0, 2, both, 13, 2, 3);
        int unlike = x.gate(UNLIKE, IN0, IN0);
        dueOfTerm(x, unlike, UNLIKE, IN0, IN0, NONE, 0, 1, 1);
        due("what -1", x.ofTerm(0, -1), OUTSIDE);
        due("what 7", x.ofTerm(0, 7), OUTSIDE);
        due("t -1", x.ofTerm(-1, 7), UNKNOWN);
        due("t too great", x.ofTerm(x.many(0), 0), UNKNOWN);
    }

    private static void leaves() {
        ClaimChains x = new ClaimChains();
        x.leaf(1, 0);
        due("leaf", x.leaves(0), 1);
        long count = 1;
        for (int t = 0; t < 39; t++) {
            x.choice(t, t, t);
            count *= 3;
            due("leaves(" + (t + 1) + ")", x.leaves(t + 1), count);
        }
        due("3 to the 39th", x.leaves(39), 4052555153018976267L);
        due("UNKNOWN", x.leaves(40), LOST);
        due("UNKNOWN", x.leaves(-1), LOST);
        ClaimChains y = withLeaves();
        due("NOT", y.leaves(y.gate(NOT, 0, 0)), 1);
        due("BOTH", y.leaves(y.gate(BOTH, 8, 8)), 2);
    }

    private static void value() {
        ClaimChains x = withLeaves();
        int not = x.gate(NOT, 1, 0), both = x.gate(BOTH, 0, IN0), either = x.gate(EITHER, 0, IN0);
        int unlike = x.gate(UNLIKE, 0, IN0), choice = x.choice(IN1, 2, 3);
        for (int s = 0; s < 16; s++) {
            for (int row = 0; row < 4; row++) {
                int a = s & 1, i = row & 1;
                due("constants", x.value(ZERO, s, row) * 2 + x.value(ONE, s, row), 1);
                due("variable", x.value(3, s, row), s >> 3);
                due("input", x.value(IN1, s, row), row >> 1);
                due("NOT", x.value(not, s, row), 1 - (s >> 1 & 1));
                due("BOTH", x.value(both, s, row), a * i);
                due("EITHER", x.value(either, s, row), a + i > 0 ? 1 : 0);
                due("UNLIKE", x.value(unlike, s, row), (a + i) % 2);
                due("CHOICE", x.value(choice, s, row), row >= 2 ? s >> 2 & 1 : s >> 3 & 1);
            }
        }
        due("UNKNOWN", x.value(13, -1, -1), UNKNOWN);
        due("state", x.value(0, 16, 0), OUTSIDE);
        due("state", x.value(0, -1, 0), OUTSIDE);
        due("row", x.value(0, 0, 4), OUTSIDE);
        due("row", x.value(0, 0, -1), OUTSIDE);
        due("row", x.value(0, 0, LOW), OUTSIDE);
    }

    private static void holds() {
        ClaimChains x = withLeaves();
        due("variable 1", x.holds(1, 2), 0xCCCC);
        due("input 1, row 1", x.holds(IN1, 1), 0);
        due("input 1, row 2", x.holds(IN1, 2), 0xFFFF);
        int choice = x.choice(IN0, 3, 0);
        due("row 0", x.holds(choice, 0), 0xAAAA);
        due("row 3", x.holds(choice, 3), 0xFF00);
        due("UNKNOWN", x.holds(9, 9), UNKNOWN);
        due("row -1", x.holds(8, -1), OUTSIDE);
        due("row 4", x.holds(8, 4), OUTSIDE);
    }

    private static void alike() {
        ClaimChains x = withLeaves();
        int both = x.gate(BOTH, 0, 1), other = x.gate(BOTH, 1, 0);
        due("parts the other way", x.alike(both, other), 1);
        due("itself", x.alike(both, both), 1);
        due("UNLIKE of itself, 0", x.alike(x.gate(UNLIKE, IN0, IN0), ZERO), 1);
        due("inputs", x.alike(IN0, IN1), 0);
        int last = x.gate(BOTH, x.gate(BOTH, both, x.gate(BOTH, 2, 3)), x.gate(BOTH, IN0, IN1));
        due("apart in the last state with the last row alone", x.alike(last, ZERO), 0);
        due("a", x.alike(-1, 0), UNKNOWN);
        due("b", x.alike(0, x.many(0)), UNKNOWN);
    }

    private static void starts() {
        ClaimChains x = withLeaves();
        due("first", x.starts(0), NONE);
        due("STARTS", x.met(4), 0xAAAA);
        due("second", x.starts(1), 0);
        due("the same again", x.starts(1), 1);
        due("UNKNOWN", x.starts(8), UNKNOWN);
        due("UNKNOWN", x.starts(-1), UNKNOWN);
        due("names an input", x.starts(IN0), OUTSIDE);
        due("names an input that does not matter", x.starts(x.gate(UNLIKE, IN1, IN1)), OUTSIDE);
        due("STARTS stay", x.met(4), 0xCCCC);
        due("a lemma", x.lemma(ONE), 0);
        x.starts(IN0);
        due("refused: lemmas stay", x.many(1), 1);
        due("the same again", x.starts(1), 1);
        due("lemmas are no more", x.many(1), 0);
    }

    private static void next() {
        ClaimChains x = withLeaves();
        due("first", x.next(0, IN1), NONE);
        due("step", x.step(0, 2), 1);
        due("step", x.step(15, 1), 14);
        due("second", x.next(0, 3), IN1);
        due("another variable", x.next(3, 0), NONE);
        due("step", x.step(1, 0), 8);
        due("VARIABLE", x.next(4, 0), UNKNOWN);
        due("VARIABLE", x.next(-1, 0), UNKNOWN);
        due("TERM", x.next(0, 8), UNKNOWN);
        due("a lemma", x.lemma(ONE), 0);
        due("refused", x.next(1, -1), UNKNOWN);
        due("refused: lemmas stay", x.many(1), 1);
        due("the same again", x.next(0, 3), 3);
        due("lemmas are no more", x.many(1), 0);
    }

    private static void claim() {
        ClaimChains x = withLeaves();
        due("first", x.claim(2), NONE);
        due("BROKEN", x.met(5), 0x0F0F);
        due("second", x.claim(3), 2);
        due("UNKNOWN", x.claim(8), UNKNOWN);
        due("OUTSIDE", x.claim(IN1), OUTSIDE);
        due("BROKEN stay", x.met(5), 0x00FF);
        x.starts(ZERO);
        due("a lemma", x.lemma(ONE), 0);
        x.claim(IN1);
        due("refused: lemmas stay", x.many(1), 1);
        due("the same again", x.claim(3), 3);
        due("lemmas are no more", x.many(1), 0);
    }

    private static void step() {
        ClaimChains x = counter();
        for (int s = 0; s < 16; s++) {
            for (int row = 0; row < 4; row++) due("step", x.step(s, row), s & 12 | (s & 3) + (row & 1) & 3);
        }
        for (int wrong : new int[] {LOW, -1, 16, HIGH}) due("state " + wrong, x.step(wrong, 0), OUTSIDE);
        for (int wrong : new int[] {LOW, -1, 4, HIGH}) due("row " + wrong, x.step(0, wrong), OUTSIDE);
    }

    private static void before() {
        ClaimChains x = counter();
        due("before(0)", x.before(0), 1 | 8);
        due("before(6)", x.before(6), 1 << 5 | 1 << 6);
        ClaimChains y = shifter();
        due("none leads to it", y.before(1), 0);
        due("before(2)", y.before(2), 1 << 1 | 1 << 9);
        due("state -1", x.before(-1), OUTSIDE);
        due("state 16", x.before(16), OUTSIDE);
    }

    private static void distance() {
        ClaimChains x = counter();
        for (int s = 0; s < 16; s++) due("distance(" + s + ")", x.distance(s), s < 4 ? s : NONE);
        due("state -1", x.distance(-1), OUTSIDE);
        due("state 16", x.distance(16), OUTSIDE);
        ClaimChains y = longest();
        for (int s = 0; s < 16; s++) due("longest: distance(" + s + ")", y.distance(s), s);
    }

    private static void dueMet(ClaimChains x, int... want) {
        for (int what = 0; what < 6; what++) due("met(" + what + ")", x.met(what), want[what]);
    }

    private static void met() {
        dueMet(counter(), 4, 3, 15, 3, 1, 0x8888);
        dueMet(shifter(), 1, 0, 1, NONE, 1, 0xFF00);
        dueMet(longest(), 16, 15, 0xFFFF, 15, 1, 0x8000);
        ClaimChains x = withLeaves();
        x.starts(ZERO);
        x.claim(ZERO);
        dueMet(x, 0, NONE, 0, NONE, 0, 0xFFFF);
        x.starts(ONE);
        dueMet(x, 16, 0, 0xFFFF, 0, 0xFFFF, 0xFFFF);
        due("what -1", x.met(-1), OUTSIDE);
        due("what 6", x.met(6), OUTSIDE);
    }

    private static void way() {
        ClaimChains x = counter();
        for (int k = 0; k < 16; k++) {
            due("state behind " + k, x.way(k, 0), k <= 3 ? k : NONE);
            due("row of " + k, x.way(k, 1), k < 3 ? 1 : NONE);
        }
        ClaimChains y = longest();
        due("longest: state behind 15", y.way(15, 0), 15);
        due("longest: row of 14", y.way(14, 1), 0);
        due("longest: row of 15", y.way(15, 1), NONE);
        int[][] outside = {{-1, 0}, {16, 0}, {0, -1}, {0, 2}, {LOW, 0}, {HIGH, 1}};
        for (int[] o : outside) due("way(" + o[0] + ", " + o[1] + ")", x.way(o[0], o[1]), OUTSIDE);
        due("no WAY", shifter().way(0, 0), NONE);
        due("no WAY, OUTSIDE", shifter().way(16, 0), OUTSIDE);
        theLeastWay();
    }

    /** From 1 two rows lead to the broken state, from 2 all; 1 is the least start, 2 its least row. */
    private static void theLeastWay() {
        ClaimChains x = withLeaves();
        x.starts(x.gate(EITHER, just(x, 1), just(x, 2)));
        x.next(3, x.gate(EITHER, IN1, 1));
        x.claim(x.gate(NOT, 3, 0));
        due("START", x.way(0, 0), 1);
        due("ROW", x.way(0, 1), 2);
        due("STATE", x.way(1, 0), 9);
        due("no more", x.way(1, 1), NONE);
        ClaimChains y = withLeaves();
        y.starts(y.gate(NOT, 0, 0));
        y.claim(1);
        due("a START that is BROKEN", y.way(0, 0), 0);
        due("no STEP", y.way(0, 1), NONE);
    }

    private static void loose() {
        ClaimChains x = counter();
        due("START", x.loose(-1), 0);
        for (int k = 0; k < 3; k++) due("ROW " + k, x.loose(k), 2);
        due("no STEP 3", x.loose(3), OUTSIDE);
        due("-2", x.loose(-2), OUTSIDE);
        due("LOW", x.loose(LOW), OUTSIDE);
        due("no WAY", shifter().loose(-1), STATE);
        due("STATE ahead of OUTSIDE", shifter().loose(-2), STATE);
        ClaimChains y = withLeaves();
        y.starts(y.gate(NOT, 2, 0));
        y.next(3, y.gate(EITHER, IN0, 0));
        y.claim(y.gate(NOT, 3, 0));
        due("of START 8 without steps", y.loose(-1), 1 | 2);
        due("without steps", y.loose(0), OUTSIDE);
        y.starts(y.gate(NOT, y.gate(EITHER, 2, 3), 0));
        due("START", y.way(0, 0), 0);
        due("ROW", y.way(0, 1), 1);
        due("of START 0: 4 and 8 are no STARTS", y.loose(-1), 1 | 2);
        due("of ROW 1", y.loose(0), 2);
        y.next(3, y.gate(EITHER, IN0, IN1));
        due("of ROW 1: 0 ends well, 3 does not", y.loose(0), 2);
        y.next(3, ONE);
        due("of ROW 0: all", y.loose(0), 3);
    }

    private static void cone() {
        ClaimChains x = counter();
        due("cone", x.cone(0), 3);
        due("inputs", x.cone(1), 1);
        due("shifter", shifter().cone(0), 15);
        due("shifter, inputs", shifter().cone(1), 0);
        ClaimChains y = withLeaves();
        due("nothing told", y.cone(0), 0);
        y.claim(2);
        due("itself, if none was told", y.cone(0), 4);
        y.next(2, 1);
        y.next(1, y.gate(BOTH, 0, IN1));
        y.next(3, IN0);
        due("through 2 and 1 to 0", y.cone(0), 7);
        due("without those of 3", y.cone(1), 2);
        y.next(2, ONE);
        due("2 hangs on nothing", y.cone(0), 4);
        y.claim(ONE);
        due("none", y.cone(0), 0);
        due("what -1", x.cone(-1), OUTSIDE);
        due("what 2", x.cone(2), OUTSIDE);
    }

    private static void clear() {
        ClaimChains x = counter();
        for (int k = 0; k <= 16; k++) due("clear(" + k + ")", x.clear(k), k <= 3 ? 1 : 0);
        due("longest: clear(15)", longest().clear(15), 1);
        due("longest: clear(16)", longest().clear(16), 0);
        due("never", shifter().clear(16), 1);
        due("k -1", x.clear(-1), OUTSIDE);
        due("k 17", x.clear(17), OUTSIDE);
    }

    private static void shut() {
        ClaimChains x = shifter();
        for (int k = 0; k <= 8; k++) due("shifter: shut(" + k + ")", x.shut(k), k < 4 ? 0 : 1);
        ClaimChains y = counter();
        for (int k = 0; k <= 8; k++) due("counter: shut(" + k + ")", y.shut(k), k < 4 ? 0 : 1);
        for (int k = 0; k <= 8; k++) due("longest: shut(" + k + ")", longest().shut(k), 0);
        due("nothing broken", withLeaves().shut(0), 1);
        due("k -1", x.shut(-1), OUTSIDE);
        due("k 9", x.shut(9), OUTSIDE);
        due("a lemma", x.lemma(x.gate(NOT, 0, 0)), 0);
        due("with it 3 is shut", x.shut(3), 1);
        due("2 is not", x.shut(2), 0);
        x.back();
        due("without it 3 is not", x.shut(3), 0);
    }

    private static void settle() {
        ClaimChains x = shifter();
        for (int limit = 0; limit <= 8; limit++) due("settle(" + limit + ")", x.settle(limit), limit < 4 ? NONE : 4);
        ClaimChains y = counter();
        due("counter: 3", y.settle(3), NONE);
        due("counter: 4, not CLEAR ahead of SHUT", y.settle(4), 103);
        due("counter: 8", y.settle(8), 103);
        due("longest: 8", longest().settle(8), NONE);
        due("nothing broken", withLeaves().settle(0), 0);
        ClaimChains z = withLeaves();
        z.claim(0);
        due("broken STARTS, 0", z.settle(0), NONE);
        due("broken STARTS, 1", z.settle(1), 100);
        due("limit -1", x.settle(-1), OUTSIDE);
        due("limit 9", x.settle(9), OUTSIDE);
    }

    private static void chain() {
        ClaimChains x = shifter();
        int[] states = {1, 2, 4, 8};
        for (int i = 0; i <= 8; i++) {
            due("chain(3, " + i + ", 0)", x.chain(3, i, 0), i <= 3 ? states[i] : NONE);
            due("chain(3, " + i + ", 1)", x.chain(3, i, 1), i < 3 ? 0 : NONE);
        }
        due("of 0", x.chain(0, 0, 0), 8);
        due("of 0 has no STEP", x.chain(0, 0, 1), NONE);
        due("of 4: none", x.chain(4, 0, 0), NONE);
        ClaimChains y = longest();
        due("longest: of 8", y.chain(8, 0, 0), 7);
        due("longest: last of 8", y.chain(8, 8, 0), 15);
        int[][] outside = {{-1, 0, 0}, {9, 0, 0}, {0, -1, 0}, {0, 9, 0}, {0, 0, -1}, {0, 0, 2}};
        for (int[] o : outside) due("chain", x.chain(o[0], o[1], o[2]), OUTSIDE);
        x.lemma(x.gate(NOT, 0, 0));
        due("with a lemma of 3: none", x.chain(3, 0, 0), NONE);
        due("with a lemma of 2", x.chain(2, 0, 0), 2);
        theFirstChain();
        pastADeadEnd();
        afterOtherSteps();
    }

    /** Of several rows that lead on the least is told, and a chain comes to no state twice. */
    private static void theFirstChain() {
        ClaimChains x = withLeaves();
        // Variable 0 follows input 1, variable 3 comes with both 0 and 1, variable 1 with 0 and input 0.
        x.next(0, IN1);
        x.next(1, x.gate(BOTH, 0, IN0));
        x.next(3, x.gate(BOTH, 0, 1));
        x.claim(x.gate(NOT, 3, 0));
        int[] states = {0, 1, 3, 8}, rows = {2, 3, 0};
        for (int i = 0; i < 4; i++) due("STATE " + i, x.chain(3, i, 0), states[i]);
        for (int i = 0; i < 3; i++) due("ROW " + i, x.chain(3, i, 1), rows[i]);
        due("of 4 from 2", x.chain(4, 0, 0), 2);
        due("of 5: no two alike", x.shut(5), 1);
    }

    /** From 0 to 2 and back, to 3, 4, 8 (broken), or to 8 at once: of 3 the way by 2 would come to 0 again. */
    private static void pastADeadEnd() {
        ClaimChains x = withLeaves();
        int at0 = just(x, 0), low = x.gate(BOTH, at0, x.gate(NOT, IN1, 0));
        x.next(0, x.gate(BOTH, low, IN0));
        x.next(1, low);
        x.next(2, just(x, 3));
        x.next(3, x.gate(EITHER, 3, x.gate(EITHER, just(x, 4), x.gate(BOTH, at0, IN1))));
        x.claim(x.gate(NOT, 3, 0));
        int[] states = {0, 3, 4, 8}, rows = {1, 0, 0};
        for (int i = 0; i < 4; i++) due("STATE " + i, x.chain(3, i, 0), states[i]);
        for (int i = 0; i < 3; i++) due("ROW " + i, x.chain(3, i, 1), rows[i]);
    }

    /** The same question ahead of a telling and behind it. */
    private static void afterOtherSteps() {
        ClaimChains x = withLeaves();
        x.claim(x.gate(NOT, 3, 0));
        due("all stay", x.chain(1, 0, 0), NONE);
        x.next(3, 2);
        due("other steps", x.chain(1, 0, 0), 4);
        x.next(3, 1);
        due("other steps", x.chain(1, 0, 0), 2);
        x.claim(x.gate(NOT, x.gate(BOTH, 0, 3), 0));
        due("another claim", x.chain(1, 0, 0), 3);
        x.starts(ZERO);
        x.lemma(x.gate(NOT, x.gate(BOTH, 1, x.gate(NOT, 3, 0)), 0));
        due("a lemma", x.chain(1, 0, 0), NONE);
        x.back();
        due("no lemma", x.chain(1, 0, 0), 3);
    }

    private static void weak() {
        ClaimChains x = shifter();
        due("WEAK", x.weak(0), 0x00F0);
        due("GOOD", x.weak(1), 0x00FF);
        due("a lemma", x.lemma(x.gate(NOT, 0, 0)), 0);
        due("WEAK", x.weak(0), 0x0050);
        due("GOOD", x.weak(1), 0x0055);
        due("counter: WEAK", counter().weak(0), 0x4444);
        due("what -1", x.weak(-1), OUTSIDE);
        due("what 2", x.weak(2), OUTSIDE);
        ClaimChains y = withLeaves();
        y.starts(ZERO);
        y.next(3, ONE);
        y.claim(y.gate(NOT, 3, 0));
        due("WEAK", y.weak(0), 0x00FF);
        due("no BROKEN ones in the lemma", y.lemma(ZERO), 0);
        due("WEAK", y.weak(0), 0);
    }

    private static void strengthen() {
        ClaimChains x = shifter();
        due("first", x.strengthen(), 16 * 1 + 1);
        due("second", x.strengthen(), 16 * 2 + 2);
        due("third", x.strengthen(), 16 * 4 + 4);
        due("none is WEAK", x.strengthen(), NONE);
        due("lemmas", x.many(1), 3);
        ClaimChains y = counter();
        due("counter: each WEAK one is come to from a GOOD one", y.strengthen(), STATE);
        due("changes nothing", y.many(1), 0);
        ClaimChains z = withLeaves();
        z.starts(ZERO);
        z.next(3, ONE);
        z.claim(z.gate(NOT, 3, 0));
        due("no STARTS: the widest CUBE", z.strengthen(), 0);
        due("a LEMMA of no STATES", z.ofLemma(0, 0), 0);
        strengthenWhenFull();
        widening();
    }

    private static void strengthenWhenFull() {
        ClaimChains x = shifter();
        for (int k = 0; k < 8; k++) x.lemma(ONE);
        due("FULL", x.strengthen(), FULL);
        due("lemmas", x.many(1), 8);
        x.back();
        due("one more", x.strengthen(), 17);
        due("FULL", x.strengthen(), FULL);
        ClaimChains y = counter();
        for (int k = 0; k < 8; k++) y.lemma(ONE);
        due("STATE ahead of FULL", y.strengthen(), STATE);
        ClaimChains z = withLeaves();
        for (int k = 0; k < 8; k++) z.lemma(ONE);
        due("NONE ahead of FULL", z.strengthen(), NONE);
    }

    /** Each state stays but 5, which goes to 13, the only broken one; 0 and 7 are the starts. */
    private static void widening() {
        ClaimChains x = withLeaves();
        int from = cube(x, 7, 5);
        x.starts(x.gate(EITHER, just(x, 7), just(x, 0)));
        x.next(3, x.gate(EITHER, 3, from));
        x.claim(x.gate(NOT, x.gate(BOTH, from, 3), 0));
        due("WEAK", x.weak(0), 1 << 5);
        due("0 may go, 1 stays as 7 is a START, 2 stays as 0 is one, 3 may go", x.strengthen(), 16 * 6 + 4);
        due("set", x.ofLemma(0, 0), 0xFFFF & ~(1 << 4 | 1 << 5 | 1 << 12 | 1 << 13));
    }

    private static void lemma() {
        ClaimChains x = shifter();
        int not0 = x.gate(NOT, 0, 0), not1 = x.gate(NOT, 1, 0);
        due("does not FIT: 1 leads to 2", x.lemma(not1), STATE);
        due("FITS", x.lemma(not0), 0);
        due("FITS with the first one", x.lemma(not1), 1);
        due("a START is not in it", x.lemma(0), STATE);
        due("UNKNOWN", x.lemma(40), UNKNOWN);
        due("UNKNOWN", x.lemma(-1), UNKNOWN);
        due("names an input", x.lemma(IN0), OUTSIDE);
        for (int k = 2; k < 8; k++) due("lemma " + k, x.lemma(ONE), k);
        due("FULL", x.lemma(ONE), FULL);
        due("STATE ahead of FULL", x.lemma(0), STATE);
        due("OUTSIDE ahead of FULL", x.lemma(IN0), OUTSIDE);
        due("lemmas", x.many(1), 8);
        ClaimChains y = withLeaves();
        int either = y.gate(EITHER, 0, 1);
        y.starts(y.gate(BOTH, 0, 1));
        y.next(0, y.gate(BOTH, 0, 1));
        y.claim(0);
        due("a step from a BROKEN state does not matter: 2 leads to 2, 1 to 0", y.lemma(either), STATE);
        y.claim(1);
        due("1 is BROKEN now", y.lemma(either), 0);
    }

    private static void block() {
        ClaimChains x = shifter();
        int not0 = x.gate(NOT, 0, 0);
        due("UNKNOWN", x.block(4), UNKNOWN);
        due("UNKNOWN", x.block(-1), UNKNOWN);
        due("nothing", x.block(0), NULL);
        due("fault", x.fault(), 1);
        x.box(0, 0, 2);
        x.lay(0, 0, 0);
        due("no TERM in place 1", x.block(0), NULL);
        due("fault", x.fault(), 1);
        x.lay(0, 1, IN0);
        due("names an input", x.block(0), OUTSIDE);
        due("fault, refused", x.fault(), 0);
        x.box(1, 0, 2);
        x.lay(1, 0, IN1);
        due("OUTSIDE in place 0 ahead of NULL in 1", x.block(1), OUTSIDE);
        x.lay(0, 1, 1);
        due("3, 7, 11, 15: no STEP leads there, as none brings a bit to variable 0", x.block(0), 0);
        due("fault", x.fault(), 0);
        due("set", x.ofLemma(0, 0), 0x7777);
        due("no CUBE", x.ofLemma(0, 2), NONE);
        x.box(2, 0, 1);
        x.lay(2, 0, not0);
        due("the START is in not 0", x.block(2), STATE);
        due("fault, refused", x.fault(), 0);
        for (int k = 1; k < 8; k++) x.lemma(ONE);
        due("STATE ahead of FULL", x.block(2), STATE);
        due("FULL", x.block(0), FULL);
        due("fault, refused", x.fault(), 0);
        ClaimChains y = withLeaves();
        y.box(3, 2, 0);
        due("no places: no STATES, but there are STARTS", y.block(3), STATE);
        y.starts(ZERO);
        due("no STARTS", y.block(3), 0);
        due("set", y.ofLemma(0, 0), 0);
    }

    private static void back() {
        ClaimChains x = shifter();
        due("none", x.back(), STATE);
        x.strengthen();
        x.strengthen();
        due("GOOD", x.weak(1), 0x0011);
        due("one is left", x.back(), 1);
        due("GOOD", x.weak(1), 0x0055);
        due("none is left", x.back(), 0);
        due("GOOD", x.weak(1), 0x00FF);
        due("none", x.back(), STATE);
    }

    private static void ofLemma() {
        ClaimChains x = shifter();
        due("UNKNOWN", x.ofLemma(0, 0), UNKNOWN);
        x.strengthen();
        x.lemma(x.gate(NOT, 1, 0));
        int[][] want = {{0x5555, 8, 17}, {0x3333, 8, NONE}};
        for (int k = 0; k < 2; k++) {
            for (int what = 0; what < 3; what++) due("ofLemma", x.ofLemma(k, what), want[k][what]);
        }
        due("what -1", x.ofLemma(0, -1), OUTSIDE);
        due("what 3", x.ofLemma(1, 3), OUTSIDE);
        due("UNKNOWN ahead of OUTSIDE", x.ofLemma(2, 3), UNKNOWN);
        due("UNKNOWN", x.ofLemma(-1, 0), UNKNOWN);
        x.lemma(just(x, 0));
        due("how many", x.ofLemma(2, 1), 1);
    }

    private static void closed() {
        ClaimChains x = shifter();
        due("some are WEAK", x.closed(), 0);
        for (int k = 0; k < 3; k++) due("lemmas", x.strengthen() >= 0 ? 1 : 0, 1);
        due("no more", x.strengthen(), NONE);
        due("none is WEAK", x.closed(), 1);
        ClaimChains y = withLeaves();
        y.claim(0);
        due("none is WEAK, STARTS are BROKEN", y.closed(), 0);
        y.starts(ZERO);
        due("no STARTS", y.closed(), 1);
    }

    private static void chance() {
        ClaimChains x = counter();
        float[] shares = {0f, 0f, 0f, 1 / 8f, 5 / 16f, 16 / 32f, 42 / 64f, 99 / 128f, 219 / 256f};
        for (int k = 0; k <= 8; k++) due("chance(" + k + ")", x.chance(k), Float.floatToIntBits(shares[k]));
        due("k -1", x.chance(-1), OUTSIDE);
        due("k 9", x.chance(9), OUTSIDE);
        ClaimChains y = withLeaves();
        int three = y.gate(BOTH, y.gate(NOT, 3, 0), y.gate(NOT, y.gate(BOTH, 0, 1), 0));
        y.starts(y.gate(BOTH, three, y.gate(NOT, 2, 0)));
        y.claim(0);
        due("2 of 3", y.chance(0), Float.floatToIntBits(2f / 3f));
        due("2 of 3", y.chance(8), 0x3F2AAAAB);
        y.claim(y.gate(NOT, 0, 0));
        due("1 of 3", y.chance(4), 0x3EAAAAAB);
        y.claim(ZERO);
        due("all", y.chance(3), Float.floatToIntBits(1f));
        y.starts(ZERO);
        due("no STARTS", y.chance(0), STATE);
        due("OUTSIDE ahead of STATE", y.chance(9), OUTSIDE);
    }

    private static void mean() {
        due("0 .. 3", counter().mean(), Double.doubleToLongBits(1.5));
        due("0 .. 15", longest().mean(), Double.doubleToLongBits(7.5));
        due("0 alone", shifter().mean(), 0);
        ClaimChains x = withLeaves();
        x.starts(x.gate(BOTH, x.gate(NOT, x.gate(EITHER, 0, 1), 0), x.gate(NOT, x.gate(EITHER, 2, 3), 0)));
        x.next(1, x.gate(EITHER, 0, 1));
        x.next(0, x.gate(NOT, 1, 0));
        due("0, 1, 3, 2: 0, 1, 2, 3", x.mean(), Double.doubleToLongBits(1.5));
        x.next(0, ONE);
        due("0, 1, 3", x.mean(), Double.doubleToLongBits(1.0));
        x.next(1, IN0);
        due("0; 1, 3", x.mean(), Double.doubleToLongBits(2.0 / 3.0));
        x.starts(ZERO);
        due("none is MET", x.mean(), LOST);
    }

    private static void box() {
        ClaimChains x = withLeaves();
        due("box", x.box(0, 0, 8), 1);
        due("fault", x.fault(), 0);
        x.lay(0, 7, 3);
        due("a new row", x.box(0, 1, 8), 1);
        due("empty", x.take(0, 7), NONE);
        due("no places", x.box(3, 3, 0), 1);
        due("no place", x.take(3, 0), INDEX);
        due("boxes", x.many(5), 2);
        due("UNKNOWN", x.box(4, 0, 0), UNKNOWN);
        due("UNKNOWN ahead of OUTSIDE", x.box(-1, 9, 9), UNKNOWN);
        due("SORT -1", x.box(1, -1, 0), OUTSIDE);
        due("SORT 4", x.box(1, 4, -1), OUTSIDE);
        due("n 9", x.box(1, 0, 9), OUTSIDE);
        due("n HIGH", x.box(1, 0, HIGH), OUTSIDE);
        due("SIZE", x.box(0, 2, -1), SIZE);
        due("fault", x.fault(), 4);
        due("SIZE", x.box(0, 2, LOW), SIZE);
        due("the row stays", x.lay(0, 7, IN0), 1);
        due("boxes", x.many(5), 2);
        due("SIZE", x.box(0, 2, -1), SIZE);
        due("refused", x.box(9, 2, -1), UNKNOWN);
        due("fault, refused", x.fault(), 0);
    }

    private static void lay() {
        ClaimChains x = withLeaves();
        int not = x.gate(NOT, 0, 0), choice = x.choice(0, 1, 2);
        int[] kinds = {ONE, 0, IN0, not, x.gate(BOTH, 0, 1), x.gate(EITHER, 0, 1), x.gate(UNLIKE, 0, 1), choice};
        String[] takes = {"11111111", "11100000", "01000000", "00011110"};
        for (int sort = 0; sort < 4; sort++) {
            x.box(sort, sort, 8);
            for (int kind = 0; kind < 8; kind++) {
                boolean taken = takes[sort].charAt(kind) == '1';
                due("SORT " + sort + ", kind " + kind, x.lay(sort, kind, kinds[kind]), taken ? 1 : STORE);
                due("fault", x.fault(), taken ? 0 : 2);
                due("there", x.take(sort, kind), taken ? kinds[kind] : NONE);
            }
        }
        due("BOX", x.lay(4, 0, 0), UNKNOWN);
        due("TERM", x.lay(0, 0, 40), UNKNOWN);
        due("NONE is no TERM", x.lay(0, 0, NONE), UNKNOWN);
        x.lose(1);
        due("UNKNOWN ahead of NULL", x.lay(1, 0, -1), UNKNOWN);
        due("fault, refused", x.fault(), 0);
        due("NULL ahead of INDEX", x.lay(1, 9, 0), NULL);
        due("fault", x.fault(), 1);
        due("INDEX ahead of STORE", x.lay(2, 8, not), INDEX);
        due("fault", x.fault(), 3);
        due("INDEX", x.lay(2, -1, 0), INDEX);
        due("another TERM", x.lay(2, 1, 3), 1);
        due("there", x.take(2, 1), 3);
        due("STORE", x.lay(2, 1, not), STORE);
        due("the elder one stays", x.take(2, 1), 3);
    }

    private static void take() {
        ClaimChains x = withLeaves();
        x.box(2, 0, 3);
        x.lay(2, 1, IN1);
        due("there", x.take(2, 1), IN1);
        due("fault", x.fault(), 0);
        due("none", x.take(2, 2), NONE);
        due("UNKNOWN", x.take(4, 0), UNKNOWN);
        due("UNKNOWN", x.take(-1, 0), UNKNOWN);
        due("NULL ahead of INDEX", x.take(0, -1), NULL);
        due("fault", x.fault(), 1);
        due("INDEX", x.take(2, 3), INDEX);
        due("fault", x.fault(), 3);
        due("INDEX", x.take(2, -1), INDEX);
        due("INDEX", x.take(2, HIGH), INDEX);
        due("UNKNOWN", x.take(5, 0), UNKNOWN);
        due("fault, refused", x.fault(), 0);
    }

    private static void same() {
        ClaimChains x = withLeaves();
        x.box(0, 2, 3);
        x.lay(0, 1, 2);
        due("same", x.same(1, 0), 3);
        due("fault", x.fault(), 0);
        due("TERM", x.take(1, 1), 2);
        due("no TERM", x.take(1, 0), NONE);
        due("as long", x.take(1, 3), INDEX);
        due("SORT", x.lay(1, 0, IN0), STORE);
        x.lay(1, 1, 3);
        due("a row of its own", x.take(0, 1), 2);
        due("its own", x.same(0, 0), 3);
        due("its own", x.take(0, 1), 2);
        due("over another", x.same(0, 1), 3);
        due("over another", x.take(0, 1), 3);
        due("NULL", x.same(0, 2), NULL);
        due("fault", x.fault(), 1);
        due("stays", x.take(0, 1), 3);
        due("either", x.same(4, 2), UNKNOWN);
        due("either", x.same(2, -1), UNKNOWN);
        due("fault, refused", x.fault(), 0);
        x.box(3, 3, 0);
        due("no places", x.same(2, 3), 0);
        due("boxes", x.many(5), 4);
    }

    private static void dueRow(ClaimChains x, int b, int... want) {
        for (int i = 0; i < want.length; i++) due("box " + b + " place " + i, x.take(b, i), want[i]);
    }

    private static void move() {
        ClaimChains x = withLeaves();
        x.box(0, 0, 5);
        layRow(x, 0, 0, 1, 2, NONE, 3);
        due("up in itself", x.move(0, 0, 0, 1, 4), 4);
        due("fault", x.fault(), 0);
        dueRow(x, 0, 0, 0, 1, 2, NONE);
        due("down in itself", x.move(0, 1, 0, 0, 4), 4);
        dueRow(x, 0, 0, 1, 2, NONE, NONE);
        x.box(1, 2, 4);
        layRow(x, 1, 3, 3, 3, 3);
        due("empty ones, too", x.move(0, 2, 1, 1, 2), 2);
        dueRow(x, 1, 3, 2, NONE, 3);
        layRow(x, 0, 0, 1, IN0, 3, 3);
        due("STORE: those ahead of it are there", x.move(0, 0, 1, 0, 4), STORE);
        due("fault", x.fault(), 2);
        dueRow(x, 1, 0, 1, NONE, 3);
        due("none", x.move(0, 5, 1, 4, 0), 0);
        moveRefused(x);
    }

    private static void moveRefused(ClaimChains x) {
        due("UNKNOWN", x.move(4, 0, 0, 0, 0), UNKNOWN);
        due("UNKNOWN ahead of NULL", x.move(2, 0, -1, 0, 0), UNKNOWN);
        due("fault, refused", x.fault(), 0);
        due("NULL: the first", x.move(2, 9, 0, 0, 0), NULL);
        due("NULL: the other", x.move(0, 9, 3, 0, 0), NULL);
        due("fault", x.fault(), 1);
        int[][] beyond = {{-1, 0, 1}, {0, -1, 1}, {0, 0, -1}, {5, 0, 1}, {0, 4, 1}, {6, 0, 0}, {0, 5, 0}, {2, 0, 4},
            {0, 2, 3}, {1, 0, HIGH}, {HIGH, 0, 1}, {0, HIGH, HIGH}, {LOW, 0, 0}, {0, 0, LOW}, {2, 0, 4}};
        for (int[] m : beyond) {
            due("INDEX " + m[0] + " " + m[1] + " " + m[2], x.move(0, m[0], 1, m[1], m[2]), INDEX);
            due("fault", x.fault(), 3);
        }
        dueRow(x, 1, 0, 1, NONE, 3);
        due("INDEX ahead of STORE: none is there", x.move(0, 1, 1, 0, 5), INDEX);
        dueRow(x, 1, 0, 1, NONE, 3);
    }

    private static void states() {
        ClaimChains x = withLeaves();
        x.box(0, 0, 4);
        due("all of none", x.states(0, 0, 0), 0xFFFF);
        due("any of none", x.states(0, 0, 1), 0);
        layRow(x, 0, 0, NONE, 1, NONE);
        due("all", x.states(0, 0, 0), 0x8888);
        due("any", x.states(0, 0, 1), 0xEEEE);
        x.lay(0, 3, IN1);
        due("all, row 1", x.states(0, 1, 0), 0);
        due("all, row 2", x.states(0, 2, 0), 0x8888);
        due("any, row 3", x.states(0, 3, 1), 0xFFFF);
        due("fault", x.fault(), 0);
        due("NULL", x.states(1, 0, 0), NULL);
        due("fault", x.fault(), 1);
        due("row, ahead of NULL", x.states(1, 4, 0), OUTSIDE);
        due("fault, refused", x.fault(), 0);
        due("row", x.states(0, -1, 0), OUTSIDE);
        due("how", x.states(1, 0, 2), OUTSIDE);
        due("how", x.states(0, 0, -1), OUTSIDE);
        due("UNKNOWN", x.states(4, 9, 9), UNKNOWN);
    }

    private static void lose() {
        ClaimChains x = withLeaves();
        due("nothing", x.lose(0), 0);
        x.box(0, 0, 0);
        due("something", x.lose(0), 1);
        due("nothing", x.lose(0), 0);
        due("boxes", x.many(5), 0);
        due("NULL", x.take(0, 0), NULL);
        due("names no FAULT", x.lose(0), 0);
        due("fault stays", x.fault(), 1);
        due("UNKNOWN", x.lose(4), UNKNOWN);
        due("UNKNOWN", x.lose(-1), UNKNOWN);
        due("fault stays", x.fault(), 1);
        x.box(0, 0, 2);
        x.lay(0, 0, 1);
        x.lose(0);
        x.box(0, 0, 2);
        due("the new row is empty", x.take(0, 0), NONE);
    }

    private static void fault() {
        ClaimChains x = withLeaves();
        due("ahead of any", x.fault(), 0);
        x.take(0, 0);
        due("NULL", x.fault(), 1);
        x.leaf(1, 0);
        x.leaf(9, 9);
        x.gate(9, 9, 9);
        x.starts(99);
        x.next(99, 0);
        x.claim(99);
        x.lemma(99);
        x.strengthen();
        x.back();
        x.chance(99);
        x.many(99);
        x.lose(0);
        due("calls that name none", x.fault(), 1);
        x.box(0, 0, -1);
        due("SIZE", x.fault(), 4);
        x.box(0, 3, 2);
        due("none", x.fault(), 0);
        x.lay(0, 0, 0);
        due("STORE", x.fault(), 2);
        x.lay(0, 2, 0);
        due("INDEX", x.fault(), 3);
        due("told again", x.fault(), 3);
        x.same(0, 9);
        due("refused", x.fault(), 0);
    }

    private static void many() {
        ClaimChains x = shifter();
        x.strengthen();
        x.box(1, 0, 0);
        x.box(2, 0, 3);
        int terms = 0;
        for (int t = 0; t < 41; t++) terms += x.leaves(t) != LOST ? 1 : 0;
        int[] want = {terms, 1, 1, 8, 4, 2};
        for (int what = 0; what < 6; what++) due("many(" + what + ")", x.many(what), want[what]);
        due("what -1", x.many(-1), OUTSIDE);
        due("what 6", x.many(6), OUTSIDE);
    }

    private static void blocksOneAndTwo() {
        promise = 1; aNewObject();
        promise = 2; leaf();
        promise = 3; gate();
        promise = 4; choice();
        promise = 5; ofTerm();
        promise = 6; leaves();
        promise = 7; value();
        promise = 8; holds();
        promise = 9; alike();
        promise = 10; starts();
        promise = 11; next();
        promise = 12; claim();
        promise = 13; step();
        promise = 14; before();
        promise = 15; distance();
        promise = 16; met();
        promise = 17; way();
        promise = 18; loose();
        promise = 19; cone();
    }

    private static void blocksThreeToFive() {
        promise = 20; clear();
        promise = 21; shut();
        promise = 22; settle();
        promise = 23; chain();
        promise = 24; weak();
        promise = 25; strengthen();
        promise = 26; lemma();
        promise = 27; block();
        promise = 28; back();
        promise = 29; ofLemma();
        promise = 30; closed();
        promise = 31; chance();
        promise = 32; mean();
        promise = 33; box();
        promise = 34; lay();
        promise = 35; take();
        promise = 36; same();
        promise = 37; move();
        promise = 38; states();
        promise = 39; lose();
        promise = 40; fault();
        promise = 41; many();
    }

    public static void main(String[] args) {
        blocksOneAndTwo();
        blocksThreeToFive();
        answers.end();
    }
}
