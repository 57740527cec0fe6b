/** The boundary cases of promises 31 and 32: chances of walks, and the mean of the distances. */
public final class WalksEdgesTest extends Edges {
    /** The term that is 1 in the first states, so many of them. */
    private static int firstStates(ClaimChains x, int count) {
        if (count == 16) return ONE;
        // State < count: it is so at the highest variable in which they differ.
        int less = ZERO;
        for (int v = 0; v < 4; v++) {
            int not = x.gate(NOT, v, 0);
            less = (count & 1 << v) != 0 ? x.gate(EITHER, not, less) : x.gate(BOTH, not, less);
        }
        return less;
    }

    private static int floatBits(int top, int bottom) {
        return Float.floatToRawIntBits((float) ((double) top / bottom));
    }

    private static void chanceBounds() {
        of(31, "k (0 .. 8); OUTSIDE");
        bounds(Fixtures::counter, call("chance", 0), 0, 0, 8, OUTSIDE);
        bounds(ClaimChains::new, call("chance", 0), 0, 0, 8, OUTSIDE);
        of(31, "STATE: there are no STARTS");
        ClaimChains x = counter();
        x.starts(ZERO);
        for (int k = 0; k <= 8; k++) due("k " + k, x.chance(k), STATE);
        for (int k : new int[] {LOW, -1, 9, HIGH}) due("OUTSIDE and STATE: k " + k, x.chance(k), OUTSIDE);
        x.claim(ZERO);
        due("no STARTS, all are BROKEN", x.chance(0), STATE);
    }

    private static void chanceNoneAndAll() {
        of(31, "The share of WALKS: none, all");
        ClaimChains x = wheel();
        for (int k = 0; k <= 8; k++) due("nothing is BROKEN: k " + k, x.chance(k), 0);
        x.claim(ZERO);
        for (int k = 0; k <= 8; k++) due("all are BROKEN: k " + k, x.chance(k), 0x3F800000);
        for (int far = 0; far <= 9; far++) {
            ClaimChains y = wheelTo(far);
            for (int k = 0; k <= 8; k++) due(far + " STEPS: k " + k, y.chance(k), k < far ? 0 : 0x3F800000);
        }
    }

    /** The wheel goes on with both INPUTS alone: one WALK of 8 comes to 8. */
    private static void chanceOfOneWalk() {
        of(31, "The share of WALKS: one, all but one");
        ClaimChains x = withLeaves();
        int on = x.gate(BOTH, IN0, IN1);
        x.starts(just(x, 0));
        for (int v = 0; v < 4; v++) {
            x.next(v, x.gate(UNLIKE, v, on));
            on = x.gate(BOTH, v, on);
        }
        x.claim(x.gate(NOT, 3, 0));
        for (int k = 0; k < 8; k++) due("k " + k, x.chance(k), 0);
        due("1 of 65536", x.chance(8), 0x37800000);
        ClaimChains y = withLeaves();
        y.starts(just(y, 0));
        y.next(3, y.gate(EITHER, 3, y.gate(NOT, y.gate(BOTH, IN0, IN1), 0)));
        y.claim(y.gate(NOT, 3, 0));
        due("none of 1", y.chance(0), 0);
        due("3 of 4", y.chance(1), 0x3F400000);
        due("65535 of 65536", y.chance(8), 0x3F7FFF00);
    }

    /** Each number of STARTS, each number of BROKEN ones among them: those that round up, and those that round down. */
    private static void chanceIsTheNearest() {
        of(31, "as a FLOAT: the nearest");
        for (int count = 1; count <= 16; count++) {
            for (int broken = 0; broken <= count; broken++) {
                ClaimChains x = withLeaves();
                x.starts(firstStates(x, count));
                x.claim(x.gate(NOT, firstStates(x, broken), 0));
                due(broken + " of " + count, x.chance(0), floatBits(broken, count));
                due(broken + " of " + count + ", 8 STEPS that stay", x.chance(8), floatBits(broken, count));
            }
        }
        due("2 of 3 rounds up", floatBits(2, 3), 0x3F2AAAAB);
        due("4 of 7 rounds down", floatBits(4, 7), 0x3F124925);
    }

    /** The START counts, and so does the last STATE; what comes behind a BROKEN one does not undo it. */
    private static void chanceAtTheEnds() {
        of(31, "its START, or a STATE to which one of its STEPS leads");
        ClaimChains x = withLeaves();
        x.starts(just(x, 8));
        x.next(3, ZERO);
        x.claim(x.gate(NOT, 3, 0));
        for (int k = 0; k <= 8; k++) due("the START alone is BROKEN: k " + k, x.chance(k), 0x3F800000);
        x.starts(just(x, 0));
        x.next(0, x.gate(NOT, 0, 0));
        x.claim(x.gate(NOT, 0, 0));
        due("none yet", x.chance(0), 0);
        due("the last one", x.chance(1), 0x3F800000);
        due("the one ahead of the last", x.chance(2), 0x3F800000);
        x.next(0, x.gate(BOTH, IN0, IN1));
        int all = 1, safe = 1;
        for (int k = 0; k <= 8; k++) {
            due("1 of 4 each time: k " + k, x.chance(k), floatBits(all - safe, all));
            all *= 4;
            safe *= 3;
        }
    }

    private static void meanOfNone() {
        of(32, "LOST: STATE: none is MET");
        ClaimChains x = wheel();
        x.starts(ZERO);
        due("no STARTS", x.mean(), LOST);
        x.claim(ZERO);
        due("no STARTS, all are BROKEN", x.mean(), LOST);
        x.starts(just(x, 7));
        due("one START", x.mean(), Double.doubleToRawLongBits(7.5));
    }

    private static void meanLeastAndGreatest() {
        of(32, "The DISTANCES of all MET STATES together, by how many there are");
        due("nothing told", new ClaimChains().mean(), 0);
        due("the greatest", wheel().mean(), 0x401E000000000000L);
        ClaimChains x = wheel();
        x.starts(ONE);
        due("all are STARTS", x.mean(), 0);
        x.starts(x.gate(NOT, just(x, 15), 0));
        due("1 by 16", x.mean(), 0x3FB0000000000000L);
        ClaimChains y = withLeaves();
        y.starts(just(y, 15));
        due("one alone, and it stays", y.mean(), 0);
    }

    /** Lines of each length with each number of STARTS: means that round up, and that round down. */
    private static void meanIsTheNearest() {
        of(32, "as a DOUBLE: the nearest");
        for (int count = 1; count <= 16; count++) {
            ClaimChains x = wheel();
            x.starts(firstStates(x, count));
            int sum = 0;
            for (int far = 1; far <= 16 - count; far++) sum += far;
            due(sum + " by 16", x.mean(), Double.doubleToRawLongBits(sum / 16.0));
        }
        for (int last = 1; last <= 15; last++) {
            due("0 .. " + last, lineTo(last).mean(), Double.doubleToRawLongBits(last / 2.0));
            for (int starts = 1; starts <= last; starts++) {
                ClaimChains x = lineTo(last);
                x.starts(firstStates(x, starts));
                int sum = (last + 1 - starts) * (last + 2 - starts) / 2;
                due(sum + " by " + (last + 1), x.mean(), Double.doubleToRawLongBits((double) sum / (last + 1)));
            }
        }
    }

    /** The wheel, which stays where it is in one of its states. */
    private static ClaimChains lineTo(int last) {
        ClaimChains x = withLeaves();
        x.starts(just(x, 0));
        int on = x.gate(NOT, just(x, last), 0);
        for (int v = 0; v < 4; v++) {
            x.next(v, x.gate(UNLIKE, v, on));
            on = x.gate(BOTH, on, v);
        }
        return x;
    }

    public static void main(String[] args) {
        begin("WalksEdgesTest");
        chanceBounds();
        chanceNoneAndAll();
        chanceOfOneWalk();
        chanceIsTheNearest();
        chanceAtTheEnds();
        meanOfNone();
        meanLeastAndGreatest();
        meanIsTheNearest();
        end();
    }
}
