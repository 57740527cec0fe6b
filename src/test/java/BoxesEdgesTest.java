/** The boundary cases of promises 33 to 41: boxes, faults, and how many there are. */
public final class BoxesEdgesTest extends Edges {
    /** The gates and the choice of boxed(): a NOT, a BOTH, an EITHER, an UNLIKE, a CHOICE. */
    private static final int NOT0 = 8, BOTH01 = 9, EITHER01 = 10, UNLIKE01 = 11, CHOICE012 = 12;

    /** A term of each kind; box 0 takes any in 8 places and has them all, 1 takes leaves in 3 places and has
     *  one in the middle, 2 takes variables and has no places, 3 has nothing. */
    private static ClaimChains boxed() {
        ClaimChains x = withLeaves();
        for (int kind = NOT; kind <= UNLIKE; kind++) x.gate(kind, 0, 1);
        x.choice(0, 1, 2);
        x.box(0, 0, 8);
        layRow(x, 0, 0, 1, 2, 3, IN0, NOT0, CHOICE012, ONE);
        x.box(1, 1, 3);
        x.lay(1, 1, IN1);
        x.box(2, 2, 0);
        return x;
    }

    private static void dueFault(ClaimChains x, Call call, long want) {
        due(x, call, want);
        due("fault() behind " + call, x.fault(), want <= NULL && want >= SIZE ? -10 - want : 0);
    }

    private static void dueRow(ClaimChains x, int b, int... want) {
        for (int i = 0; i < want.length; i++) due("place " + i + " of " + b, x.take(b, i), want[i]);
        due("one more place of " + b, x.take(b, want.length), INDEX);
    }

    private static void dueBoxedStill(ClaimChains x) {
        dueRow(x, 0, 0, 1, 2, 3, IN0, NOT0, CHOICE012, ONE);
        dueRow(x, 1, NONE, IN1, NONE);
        dueRow(x, 2);
        due("3 has nothing", x.take(3, 0), NULL);
        due("SORT of 0", x.lay(0, 0, CHOICE012), 1);
        due("SORT of 1", x.lay(1, 0, NOT0), STORE);
        due("SORT of 1", x.lay(1, 0, ONE), 1);
    }

    private static void boxBounds() {
        of(33, "UNKNOWN");
        bounds(BoxesEdgesTest::boxed, call("box", 0, 0, 0), 0, 0, 3, UNKNOWN);
        of(33, "OUTSIDE: SORT, n above 8");
        bounds(BoxesEdgesTest::boxed, call("box", 0, 0, 0), 1, 0, 3, OUTSIDE);
        for (int n : beyond(LOW, 8)) {
            ClaimChains x = boxed();
            dueFault(x, call("box", 0, 0, n), OUTSIDE);
            dueBoxedStill(x);
        }
        of(33, "SIZE");
        for (int n : beyond(0, HIGH)) {
            ClaimChains x = boxed();
            dueFault(x, call("box", 0, 1, n), SIZE);
            dueBoxedStill(x);
        }
    }

    private static void boxTwoAtOnce() {
        of(33, "UNKNOWN; OUTSIDE; SIZE");
        ClaimChains x = boxed();
        dueFault(x, call("box", 0, 0, -1), SIZE);
        dueFault(x, call("box", 4, 4, 0), UNKNOWN);
        dueFault(x, call("box", 0, 0, -1), SIZE);
        dueFault(x, call("box", 4, 0, 9), UNKNOWN);
        dueFault(x, call("box", -1, 0, -1), UNKNOWN);
        dueFault(x, call("box", 0, 0, -1), SIZE);
        dueFault(x, call("box", 0, 4, -1), OUTSIDE);
        dueFault(x, call("box", 0, -1, 9), OUTSIDE);
        dueFault(x, call("box", 3, -1, LOW), OUTSIDE);
        dueBoxedStill(x);
    }

    private static void boxNoPlacesAndAll() {
        of(33, "a new row of n places");
        for (int n = 0; n <= 8; n++) {
            for (int sort = 0; sort < 4; sort++) {
                ClaimChains x = boxed();
                dueFault(x, call("box", 0, sort, n), 1);
                int[] empty = new int[n];
                java.util.Arrays.fill(empty, NONE);
                dueRow(x, 0, empty);
                due("boxes", x.many(5), 3);
            }
        }
    }

    private static void layBounds() {
        of(34, "UNKNOWN: BOX, TERM");
        bounds(BoxesEdgesTest::boxed, call("lay", 0, 0, 0), 0, 0, 3, UNKNOWN);
        termBounds(BoxesEdgesTest::boxed, call("lay", 0, 0, 0), 2, UNKNOWN);
        of(34, "INDEX");
        bounds(BoxesEdgesTest::boxed, call("lay", 0, 0, 0), 1, 0, 7, INDEX);
        bounds(BoxesEdgesTest::boxed, call("lay", 1, 0, 0), 1, 0, 2, INDEX);
        bounds(BoxesEdgesTest::boxed, call("lay", 2, 0, 0), 1, 0, -1, INDEX);
        due("place 0 of no places", boxed().lay(2, 0, 0), INDEX);
    }

    private static void layTwoAtOnce() {
        of(34, "UNKNOWN; NULL; INDEX; STORE");
        ClaimChains x = boxed();
        dueFault(x, call("lay", 3, 0, 0), NULL);
        dueFault(x, call("lay", 4, 8, 13), UNKNOWN);
        dueFault(x, call("lay", 3, 0, 13), UNKNOWN);
        dueFault(x, call("lay", 0, 8, 13), UNKNOWN);
        dueFault(x, call("lay", 3, -1, 0), NULL);
        dueFault(x, call("lay", 0, 0, -1), UNKNOWN);
        dueFault(x, call("lay", 1, 3, NOT0), INDEX);
        dueFault(x, call("lay", 2, 0, IN0), INDEX);
        dueFault(x, call("lay", 1, 2, NOT0), STORE);
        dueFault(x, call("lay", 1, 1, CHOICE012), STORE);
        dueBoxedStill(x);
    }

    private static void laySorts() {
        of(34, "STORE: the BOX takes no such TERM");
        int[] terms = {ZERO, ONE, 0, 3, IN0, IN1, NOT0, BOTH01, EITHER01, UNLIKE01, CHOICE012};
        String[] takes = {"11111111111", "11111100000", "00110000000", "00000011110"};
        for (int sort = 0; sort < 4; sort++) {
            for (int k = 0; k < terms.length; k++) {
                ClaimChains x = boxed();
                x.box(3, sort, 1);
                boolean taken = takes[sort].charAt(k) == '1';
                dueFault(x, call("lay", 3, 0, terms[k]), taken ? 1 : STORE);
                due("there", x.take(3, 0), taken ? terms[k] : NONE);
            }
        }
        ClaimChains y = boxed();
        dueFault(y, call("lay", 1, 1, 0), 1);
        dueFault(y, call("lay", 1, 0, IN0), 1);
        dueFault(y, call("lay", 1, 2, ONE), 1);
        dueRow(y, 1, IN0, 0, ONE);
    }

    private static void takeBounds() {
        of(35, "UNKNOWN");
        bounds(BoxesEdgesTest::boxed, call("take", 0, 0), 0, 0, 3, UNKNOWN);
        of(35, "INDEX");
        bounds(BoxesEdgesTest::boxed, call("take", 0, 0), 1, 0, 7, INDEX);
        bounds(BoxesEdgesTest::boxed, call("take", 1, 0), 1, 0, 2, INDEX);
        bounds(BoxesEdgesTest::boxed, call("take", 2, 0), 1, 0, -1, INDEX);
        of(35, "NONE: it has none; UNKNOWN; NULL; INDEX");
        ClaimChains x = boxed();
        dueFault(x, call("take", 3, 0), NULL);
        dueFault(x, call("take", 3, 8), NULL);
        dueFault(x, call("take", 4, 8), UNKNOWN);
        dueFault(x, call("take", 1, 3), INDEX);
        dueFault(x, call("take", 1, 2), NONE);
        dueFault(x, call("take", 0, 8), INDEX);
        dueFault(x, call("take", 0, 0), 0);
        dueFault(x, call("take", 2, 0), INDEX);
        dueFault(x, call("take", -1, 0), UNKNOWN);
        dueFault(x, call("take", 0, 7), ONE);
        dueBoxedStill(x);
    }

    private static void sameBounds() {
        of(36, "UNKNOWN: either");
        bounds(BoxesEdgesTest::boxed, call("same", 0, 0), 0, 0, 3, UNKNOWN);
        bounds(BoxesEdgesTest::boxed, call("same", 0, 0), 1, 0, 3, UNKNOWN);
        of(36, "UNKNOWN; NULL: that other one");
        ClaimChains x = boxed();
        dueFault(x, call("same", 0, 3), NULL);
        dueFault(x, call("same", 4, 3), UNKNOWN);
        dueFault(x, call("same", 3, 3), NULL);
        dueFault(x, call("same", 0, 4), UNKNOWN);
        dueFault(x, call("same", -1, -1), UNKNOWN);
        dueFault(x, call("same", 2, 3), NULL);
        dueBoxedStill(x);
    }

    private static void sameNoPlacesAndAll() {
        of(36, "a row of the same SORT, as long, with the same TERMS");
        ClaimChains x = boxed();
        dueFault(x, call("same", 3, 2), 0);
        dueRow(x, 3);
        due("boxes", x.many(5), 4);
        dueFault(x, call("same", 3, 0), 8);
        dueRow(x, 3, 0, 1, 2, 3, IN0, NOT0, CHOICE012, ONE);
        dueFault(x, call("same", 0, 1), 3);
        dueRow(x, 0, NONE, IN1, NONE);
        due("its SORT, too", x.lay(0, 0, NOT0), STORE);
        dueFault(x, call("same", 0, 2), 0);
        dueRow(x, 0);
        dueFault(x, call("same", 0, 3), 8);
        due("places beyond the shorter row are as that one's", x.take(0, 7), ONE);
        of(36, "perhaps its own");
        dueFault(x, call("same", 3, 3), 8);
        dueRow(x, 3, 0, 1, 2, 3, IN0, NOT0, CHOICE012, ONE);
        dueFault(x, call("same", 2, 2), 0);
        dueRow(x, 2);
        of(36, "a row of its own");
        x.lay(3, 0, IN1);
        due("the other stays", x.take(0, 0), 0);
        x.lose(3);
        due("the other stays", x.take(0, 7), ONE);
    }

    private static void moveBoxes() {
        of(37, "UNKNOWN");
        bounds(BoxesEdgesTest::boxed, call("move", 0, 0, 0, 0, 0), 0, 0, 3, UNKNOWN);
        bounds(BoxesEdgesTest::boxed, call("move", 0, 0, 0, 0, 0), 2, 0, 3, UNKNOWN);
        of(37, "UNKNOWN; NULL: the first, the other; INDEX");
        ClaimChains x = boxed();
        dueFault(x, call("move", 3, 0, 0, 0, 0), NULL);
        dueFault(x, call("move", 4, 0, 3, 0, 0), UNKNOWN);
        dueFault(x, call("move", 0, 0, 3, 0, 0), NULL);
        dueFault(x, call("move", 3, 0, 4, 0, 0), UNKNOWN);
        dueFault(x, call("move", 3, 0, 3, 0, 0), NULL);
        dueFault(x, call("move", 4, -1, 4, -1, -1), UNKNOWN);
        dueFault(x, call("move", 3, -1, 0, 0, 1), NULL);
        dueFault(x, call("move", 0, 9, 3, 0, 1), NULL);
        dueFault(x, call("move", 0, 0, 3, 0, -1), NULL);
        dueFault(x, call("move", 0, 0, 1, 0, 9), INDEX);
        dueBoxedStill(x);
    }

    private static void movePlaces() {
        of(37, "INDEX: i, j, n below 0 or beyond");
        bounds(BoxesEdgesTest::boxed, call("move", 0, 0, 1, 0, 0), 1, 0, 8, INDEX);
        bounds(BoxesEdgesTest::boxed, call("move", 0, 0, 1, 0, 1), 1, 0, 7, INDEX);
        bounds(BoxesEdgesTest::boxed, call("move", 0, 0, 1, 0, 0), 3, 0, 3, INDEX);
        bounds(BoxesEdgesTest::boxed, call("move", 0, 0, 1, 0, 1), 3, 0, 2, INDEX);
        bounds(BoxesEdgesTest::boxed, call("move", 0, 0, 1, 0, 0), 4, 0, 3, INDEX);
        bounds(BoxesEdgesTest::boxed, call("move", 0, 6, 1, 0, 0), 4, 0, 2, INDEX);
        bounds(BoxesEdgesTest::boxed, call("move", 0, 0, 1, 2, 0), 4, 0, 1, INDEX);
        bounds(BoxesEdgesTest::boxed, call("move", 0, 0, 0, 0, 0), 4, 0, 8, INDEX);
        bounds(BoxesEdgesTest::boxed, call("move", 1, 0, 0, 6, 0), 4, 0, 2, INDEX);
        bounds(BoxesEdgesTest::boxed, call("move", 2, 0, 2, 0, 0), 4, 0, 0, INDEX);
        ClaimChains x = boxed();
        int[][] wraps = {{1, 0, HIGH}, {HIGH, 0, 1}, {HIGH, 0, HIGH}, {0, HIGH, 1}, {0, 1, HIGH}, {HIGH, HIGH, 2}, {LOW, LOW, LOW}};
        for (int[] w : wraps) dueFault(x, call("move", 0, w[0], 1, w[1], w[2]), INDEX);
        dueBoxedStill(x);
    }

    private static void moveStores() {
        of(37, "INDEX; STORE: one does not go there: those ahead of it are there");
        ClaimChains x = boxed();
        dueFault(x, call("move", 0, 5, 1, 0, 4), INDEX);
        dueFault(x, call("move", 0, 5, 1, 3, 1), INDEX);
        dueFault(x, call("move", 0, 5, 1, 0, 1), STORE);
        dueBoxedStill(x);
        x = boxed();
        dueFault(x, call("move", 0, 3, 1, 0, 3), STORE);
        dueRow(x, 1, 3, IN0, NONE);
        dueRow(x, 0, 0, 1, 2, 3, IN0, NOT0, CHOICE012, ONE);
        x = boxed();
        dueFault(x, call("move", 0, 4, 1, 1, 2), STORE);
        dueRow(x, 1, NONE, IN0, NONE);
        x = boxed();
        dueFault(x, call("move", 0, 6, 1, 2, 1), STORE);
        dueFault(x, call("move", 0, 7, 1, 2, 1), 1);
        dueRow(x, 1, NONE, IN1, ONE);
        x.box(3, 3, 2);
        dueFault(x, call("move", 0, 5, 3, 0, 2), STORE);
        dueRow(x, 3, NOT0, NONE);
        dueFault(x, call("move", 1, 0, 3, 0, 1), 1);
        dueRow(x, 3, NONE, NONE);
        x.box(3, 2, 2);
        dueFault(x, call("move", 0, 3, 3, 0, 2), STORE);
        dueRow(x, 3, 3, NONE);
    }

    /** Each pair of places and each length in a box of eight: what comes is as it was, wherever it goes. */
    private static void moveInItself() {
        of(37, "perhaps the same; as they were, one behind another");
        int[] were = {0, 1, 2, 3, IN0, NOT0, CHOICE012, ONE};
        for (int i = 0; i <= 8; i++) {
            for (int j = 0; j <= 8; j++) {
                int most = 8 - Math.max(i, j);
                for (int n : new int[] {0, most / 2, most}) {
                    ClaimChains x = boxed();
                    dueFault(x, call("move", 0, i, 0, j, n), n);
                    int[] want = were.clone();
                    for (int m = 0; m < n; m++) want[j + m] = were[i + m];
                    dueRow(x, 0, want);
                }
                dueFault(boxed(), call("move", 0, i, 0, j, most + 1), INDEX);
            }
        }
    }

    private static void moveEmptyOnes() {
        of(37, "empty ones, too");
        ClaimChains x = boxed();
        dueFault(x, call("move", 1, 0, 0, 5, 3), 3);
        dueRow(x, 0, 0, 1, 2, 3, IN0, NONE, IN1, NONE);
        dueRow(x, 1, NONE, IN1, NONE);
        x.box(3, 2, 1);
        x.lay(3, 0, 3);
        dueFault(x, call("move", 0, 7, 3, 0, 1), 1);
        dueRow(x, 3, NONE);
        of(37, "n: none");
        dueFault(x, call("move", 0, 8, 1, 3, 0), 0);
        dueFault(x, call("move", 2, 0, 2, 0, 0), 0);
        dueFault(x, call("move", 2, 0, 0, 8, 0), 0);
        dueRow(x, 0, 0, 1, 2, 3, IN0, NONE, IN1, NONE);
    }

    private static void statesBounds() {
        of(38, "UNKNOWN");
        bounds(BoxesEdgesTest::boxed, call("states", 0, 0, 0), 0, 0, 3, UNKNOWN);
        of(38, "OUTSIDE: row, how");
        bounds(BoxesEdgesTest::boxed, call("states", 0, 0, 0), 1, 0, 3, OUTSIDE);
        bounds(BoxesEdgesTest::boxed, call("states", 0, 0, 0), 2, 0, 1, OUTSIDE);
        of(38, "UNKNOWN; OUTSIDE; NULL");
        ClaimChains x = boxed();
        dueFault(x, call("states", 3, 0, 0), NULL);
        dueFault(x, call("states", 4, 4, 2), UNKNOWN);
        dueFault(x, call("states", 3, 0, 1), NULL);
        dueFault(x, call("states", 3, 4, 0), OUTSIDE);
        dueFault(x, call("states", 3, 3, 1), NULL);
        dueFault(x, call("states", 3, 0, 2), OUTSIDE);
        dueFault(x, call("states", 0, -1, -1), OUTSIDE);
        dueBoxedStill(x);
    }

    private static void statesNoneAndAll() {
        of(38, "all TERMS, any TERM of a BOX's places that have one");
        ClaimChains x = boxed();
        for (int row = 0; row < 4; row++) {
            dueFault(x, call("states", 2, row, 0), ALL);
            dueFault(x, call("states", 2, row, 1), 0);
            dueFault(x, call("states", 1, row, 0), row > 1 ? ALL : 0);
            dueFault(x, call("states", 1, row, 1), row > 1 ? ALL : 0);
        }
        x.box(3, 0, 8);
        dueFault(x, call("states", 3, 3, 0), ALL);
        dueFault(x, call("states", 3, 3, 1), 0);
        x.lay(3, 7, 3);
        dueFault(x, call("states", 3, 0, 0), 0xFF00);
        dueFault(x, call("states", 3, 0, 1), 0xFF00);
        x.lay(3, 0, 0);
        dueFault(x, call("states", 3, 0, 0), 0xAA00);
        dueFault(x, call("states", 3, 0, 1), 0xFFAA);
        x.lay(3, 4, ZERO);
        dueFault(x, call("states", 3, 0, 0), 0);
        x.lay(3, 5, ONE);
        dueFault(x, call("states", 3, 0, 1), ALL);
    }

    private static void loseBounds() {
        of(39, "UNKNOWN");
        bounds(BoxesEdgesTest::boxed, call("lose", 0), 0, 0, 3, UNKNOWN);
        of(39, "1; 0: it had nothing");
        ClaimChains x = boxed();
        int[] had = {1, 1, 1, 0};
        for (int b = 0; b < 4; b++) {
            due("lose(" + b + ")", x.lose(b), had[b]);
            due("again", x.lose(b), 0);
            due("nothing is there", x.take(b, 0), NULL);
            due("boxes", x.many(5), b < 3 ? 2 - b : 0);
        }
        of(39, "it names no FAULTS");
        ClaimChains y = boxed();
        y.take(0, 8);
        y.lose(0);
        y.lose(3);
        y.lose(4);
        due("fault()", y.fault(), 3);
        y.box(0, 0, 8);
        for (int i = 0; i < 8; i++) due("a new row is empty", y.take(0, i), NONE);
    }

    private static void faultOfEach() {
        of(40, "0 ahead of any");
        due("nothing was called", new ClaimChains().fault(), 0);
        ClaimChains x = new ClaimChains();
        x.leaf(9, 9);
        x.lose(9);
        x.back();
        due("calls that name none", x.fault(), 0);
        of(40, "The FAULT of the latest call that names one");
        Call[] faults = {call("take", 3, 0), call("lay", 1, 0, NOT0), call("lay", 0, 8, 0), call("box", 0, 0, -1)};
        Call[] none = {call("block", 2), call("box", 3, 0, 0), call("lay", 0, 0, 0), call("take", 0, 0), call("same", 0, 0),
            call("move", 0, 0, 0, 0, 0), call("states", 0, 0, 0), call("block", 4), call("box", 4, 0, 0), call("lay", 4, 0, 0),
            call("take", 4, 0), call("same", 4, 0), call("move", 4, 0, 0, 0, 0), call("states", 4, 0, 0)};
        for (int which = 1; which <= 4; which++) {
            for (Call call : none) {
                ClaimChains y = boxed();
                due(y, faults[which - 1], -10 - which);
                due("fault()", y.fault(), which);
                due("told again", y.fault(), which);
                call.on(y);
                due("0: it came to none, or was refused: " + call, y.fault(), 0);
            }
        }
    }

    private static void faultStays() {
        of(40, "the latest call that names one: others do not");
        Call[] others = {call("leaf", 1, 0), call("leaf", 3, 0), call("gate", 3, 0, 0), call("gate", 7, 0, 0), call("choice", 0, 0, 0),
            call("choice", 99, 0, 0), call("ofTerm", 0, 0), call("ofTerm", 0, 7), call("leaves", 0), call("leaves", 99),
            call("value", 0, 0, 0), call("value", 0, 16, 0), call("holds", 0, 0), call("holds", 0, 4), call("alike", 0, 0),
            call("alike", 0, 99), call("starts", 0), call("starts", IN0), call("next", 0, 0), call("next", 4, 0), call("claim", 0),
            call("claim", IN0), call("step", 0, 0), call("step", 16, 0), call("before", 0), call("before", 16), call("distance", 0),
            call("distance", 16), call("met", 0), call("met", 6), call("way", 0, 0), call("way", 16, 0), call("loose", -1),
            call("cone", 0), call("cone", 2), call("clear", 0), call("clear", 17), call("shut", 0), call("shut", 9),
            call("settle", 0), call("settle", 9), call("chain", 0, 0, 0), call("chain", 9, 0, 0), call("weak", 0), call("weak", 2),
            call("strengthen"), call("lemma", ONE), call("lemma", ZERO), call("lemma", IN0), call("back"), call("ofLemma", 0, 0),
            call("closed"), call("chance", 0), call("chance", 9), call("mean"), call("lose", 0), call("lose", 3), call("lose", 4),
            call("fault"), call("many", 0), call("many", 6)};
        for (Call call : others) {
            ClaimChains x = boxed();
            x.box(0, 0, -1);
            call.on(x);
            due("fault() behind " + call, x.fault(), 4);
        }
    }

    private static void manyBounds() {
        of(41, "OUTSIDE");
        bounds(BoxesEdgesTest::boxed, call("many", 0), 0, 0, 5, OUTSIDE);
        bounds(ClaimChains::new, call("many", 0), 0, 0, 5, OUTSIDE);
    }

    private static void dueMany(ClaimChains x, int... want) {
        for (int what = 0; what < 6; what++) due("many(" + what + ")", x.many(what), want[what]);
    }

    private static void manyNoneAndAll() {
        of(41, "How many: none, all");
        dueMany(new ClaimChains(), 0, 0, 16, 0, 16, 0);
        ClaimChains x = withLeaves();
        fillTerms(x);
        x.starts(ZERO);
        x.claim(ZERO);
        dueMany(x, 40, 0, 0, 16, 0, 0);
        x.claim(ONE);
        for (int k = 0; k < 8; k++) x.lemma(ONE);
        for (int b = 0; b < 4; b++) x.box(b, b, 0);
        dueMany(x, 40, 8, 0, 0, 16, 4);
        x.back();
        x.lemma(ZERO);
        x.lose(2);
        dueMany(x, 40, 8, 0, 0, 0, 3);
        x.starts(3);
        dueMany(x, 40, 0, 8, 0, 16, 3);
        x.claim(2);
        dueMany(x, 40, 0, 8, 8, 8, 3);
    }

    private static void rows() {
        boxBounds();
        boxTwoAtOnce();
        boxNoPlacesAndAll();
        layBounds();
        layTwoAtOnce();
        laySorts();
        takeBounds();
        sameBounds();
        sameNoPlacesAndAll();
    }

    private static void moves() {
        moveBoxes();
        movePlaces();
        moveStores();
        moveInItself();
        moveEmptyOnes();
    }

    private static void theRest() {
        statesBounds();
        statesNoneAndAll();
        loseBounds();
        faultOfEach();
        faultStays();
        manyBounds();
        manyNoneAndAll();
    }

    public static void main(String[] args) {
        begin("BoxesEdgesTest");
        rows();
        moves();
        theRest();
        end();
    }
}
