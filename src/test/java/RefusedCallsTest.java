import java.util.ArrayList;
import java.util.LinkedHashMap;
import java.util.List;
import java.util.Map;
import java.util.function.Supplier;

/**
 * Behind a refused or faulted call every other call answers as it did before it.
 *
 * In each of some situations each call is made with edges for its arguments. If it is refused, then all that can be
 * asked, and each call that changes something, is held against an object in which the refused call was never made.
 * An object answers 512 calls, so that each part of the questions has an object of its own.
 */
public final class RefusedCallsTest extends Edges {
    /** All calls, from promise 2 on, and what each argument is: the letters of EDGES. */
    private static final String[] CALLS = {
        "leaf k n", "gate g t t", "choice t t t", "ofTerm t r", "leaves t", "value t s w", "holds t w", "alike t t",
        "starts t", "next n t", "claim t", "step s w", "before s", "distance s", "met r", "way s r", "loose l", "cone r",
        "clear c", "shut c", "settle c", "chain c c r", "weak r", "strengthen", "lemma t", "block b", "back", "ofLemma p r",
        "closed", "chance c", "mean", "box b n p", "lay b p t", "take b p", "same b b", "move b p b p m", "states b w r", "lose b",
        "fault", "many r"};
    private static final Map<Character, int[]> EDGES = Map.ofEntries(
        Map.entry('k', new int[] {LOW, -1, 0, 2, 3}),
        Map.entry('n', new int[] {-1, 0, 1, 3, 4}),
        Map.entry('g', new int[] {2, 3, 6, 7, HIGH}),
        Map.entry('t', new int[] {-1, 0, IN1, ZERO, 39, 40}),
        Map.entry('s', new int[] {-1, 0, 15, 16, HIGH}),
        Map.entry('w', new int[] {-1, 0, 3, 4}),
        Map.entry('r', new int[] {LOW, -1, 0, 2, 6, 7}),
        Map.entry('l', new int[] {-2, -1, 0, 3, 15, HIGH}),
        Map.entry('c', new int[] {LOW, -1, 0, 8, 9, 17}),
        Map.entry('b', new int[] {-1, 0, 1, 2, 3, 4}),
        Map.entry('p', new int[] {LOW, -1, 0, 3, 8, 9}),
        Map.entry('m', new int[] {-1, 0, 1, 9, HIGH}));
    /** Calls that change something, or could if what a refused call left were not as it was. */
    private static final Call[] CHANGES = {
        call("leaf", 2, 1), call("leaf", 0, 0), call("gate", 3, 0, 0), call("gate", 5, 3, 1), call("choice", 1, 2, 3),
        call("starts", 0), call("starts", ONE), call("next", 0, 1), call("next", 3, IN0), call("claim", 2), call("claim", ZERO),
        call("strengthen"), call("lemma", ONE), call("lemma", 8), call("block", 0), call("block", 1), call("back"),
        call("box", 0, 3, 8), call("box", 3, 0, 0), call("lay", 0, 0, 0), call("lay", 1, 2, 3), call("take", 0, 1),
        call("same", 3, 0), call("same", 2, 1), call("move", 0, 0, 1, 0, 2), call("move", 1, 0, 0, 1, 1), call("lose", 0),
        call("lose", 3), call("states", 0, 1, 0)};
    private static final int PARTS = 3;

    private static Map<String, Supplier<ClaimChains>> situations() {
        Map<String, Supplier<ClaimChains>> all = new LinkedHashMap<>();
        all.put("a new object", ClaimChains::new);
        all.put("terms alone", Fixtures::withLeaves);
        all.put("a way, a lemma, some boxes", RefusedCallsTest::someOfEach);
        all.put("all that there is room for", RefusedCallsTest::fullOfEach);
        all.put("weak states that cannot go", RefusedCallsTest::stuck);
        all.put("no starts", RefusedCallsTest::withoutStarts);
        return all;
    }

    private static ClaimChains someOfEach() {
        ClaimChains x = counter();
        x.lemma(ONE);
        x.box(0, 0, 3);
        layRow(x, 0, 0, 8, IN0);
        x.box(1, 1, 3);
        x.lay(1, 1, 2);
        x.box(2, 2, 0);
        x.chain(3, 0, 0);
        x.take(1, 3);
        return x;
    }

    private static ClaimChains fullOfEach() {
        ClaimChains x = shifter();
        fillTerms(x);
        x.strengthen();
        for (int k = 1; k < 8; k++) x.lemma(ONE);
        for (int b = 0; b < 4; b++) x.box(b, b, 8);
        layRow(x, 0, 0, 1, 2, 3, IN0, IN1, ZERO, ONE);
        layRow(x, 1, ONE, ZERO, IN1, IN0, 3, 2, 1, 0);
        layRow(x, 2, 0, 1, 2, 3, 3, 2, 1, 0);
        for (int i = 0; i < 8; i++) x.lay(3, i, 8 + i);
        x.lay(1, 0, 8);
        return x;
    }

    private static ClaimChains stuck() {
        ClaimChains x = counter();
        for (int k = 0; k < 8; k++) x.lemma(ONE);
        x.box(3, 3, 1);
        x.box(0, 0, -1);
        return x;
    }

    private static ClaimChains withoutStarts() {
        ClaimChains x = wheelTo(9);
        x.starts(ZERO);
        x.lemma(3);
        x.box(1, 0, 2);
        layRow(x, 1, 2, ONE);
        x.take(0, 0);
        return x;
    }

    /** Every call of a line of CALLS, with each edge for each of its arguments. */
    private static List<Call> withEdges(String line) {
        String[] words = line.split(" ");
        List<Call> calls = new ArrayList<>();
        calls.add(new Call(words[0], new int[words.length - 1]));
        for (int place = 0; place < words.length - 1; place++) {
            List<Call> more = new ArrayList<>();
            for (Call call : calls) {
                for (int edge : EDGES.get(words[place + 1].charAt(0))) more.add(call.with(place, edge));
            }
            calls = more;
        }
        return calls;
    }

    private static boolean isFault(long answer) {
        return answer <= NULL && answer >= SIZE;
    }

    private static boolean isRefusal(long answer) {
        return answer == LOST || answer <= UNKNOWN && answer >= FULL;
    }

    /** One part of all that can be asked without changing anything but fault(). */
    private static long[] asked(ClaimChains x, int part) {
        List<Long> answers = new ArrayList<>();
        if (part == 0) askTerms(x, answers);
        else if (part == 1) askMachine(x, answers);
        else askLemmasAndBoxes(x, answers);
        return answers.stream().mapToLong(Long::longValue).toArray();
    }

    private static void askTerms(ClaimChains x, List<Long> answers) {
        for (int t = 0; t <= 40; t++) {
            for (int what = 0; what <= 6; what++) answers.add((long) x.ofTerm(t, what));
            answers.add(x.leaves(t));
            answers.add((long) x.value(t, t & 15, t & 3));
        }
        for (int what = 0; what <= 5; what++) answers.add((long) x.many(what));
    }

    private static void askMachine(ClaimChains x, List<Long> answers) {
        for (int s = 0; s < 16; s++) {
            for (int row = 0; row < 4; row++) answers.add((long) x.step(s, row));
            answers.add((long) x.before(s));
            answers.add((long) x.distance(s));
            answers.add((long) x.way(s, 0));
            answers.add((long) x.way(s, 1));
            answers.add((long) x.loose(s - 1));
            answers.add((long) x.clear(s + 1));
        }
        for (int t = 0; t < 40; t++) {
            for (int row = 0; row < 3; row++) answers.add((long) x.holds(t, row));
            answers.add((long) x.alike(t, 39 - t));
        }
        for (int what = 0; what <= 5; what++) answers.add((long) x.met(what));
        answers.add(x.mean());
    }

    private static void askLemmasAndBoxes(ClaimChains x, List<Long> answers) {
        for (int k = 0; k <= 8; k++) {
            for (int i = 0; i <= k; i++) answers.add((long) x.chain(k, i, 0) * 16 + x.chain(k, i, 1));
            answers.add((long) x.shut(k));
            answers.add((long) x.settle(k));
            answers.add((long) x.chance(k));
            for (int what = 0; what <= 2; what++) answers.add((long) x.ofLemma(k, what));
            for (int b = 0; b < 4; b++) answers.add((long) x.take(b, k));
        }
        for (int b = 0; b < 4; b++) {
            for (int row = 0; row < 4; row++) answers.add((long) x.states(b, row, row & 1));
        }
        for (int what = 0; what <= 1; what++) {
            answers.add((long) x.weak(what));
            answers.add((long) x.cone(what));
        }
        answers.add((long) x.closed());
    }

    /** What an object of a situation answers in which no refused call was made. */
    private record Before(Supplier<ClaimChains> made, int fault, long[][] asked, long[][] changed) {
        static Before of(Supplier<ClaimChains> made) {
            long[][] asked = new long[PARTS][];
            for (int part = 0; part < PARTS; part++) asked[part] = RefusedCallsTest.asked(made.get(), part);
            long[][] changed = new long[CHANGES.length][];
            for (int k = 0; k < CHANGES.length; k++) changed[k] = change(made.get(), CHANGES[k]);
            return new Before(made, made.get().fault(), asked, changed);
        }
    }

    /** What a call that changes something answers, and some of what it changed. */
    private static long[] change(ClaimChains x, Call call) {
        long answer = call.on(x);
        return new long[] {answer, x.fault() * (call.namesFaults() ? 1 : 0), x.many(0), x.many(1), x.many(2), x.many(3), x.many(4),
            x.many(5), x.met(2), x.met(3), x.weak(0), x.cone(0), x.settle(8), x.take(0, 0), x.take(1, 0), x.take(1, 2), x.take(2, 1),
            x.take(3, 0), x.back(), x.weak(1)};
    }

    private static ClaimChains behind(Before before, Call refused) {
        ClaimChains x = before.made().get();
        refused.on(x);
        return x;
    }

    private static void dueUnchanged(Before before, Call refused, long answer) {
        int fault = refused.namesFaults() ? isFault(answer) ? (int) (-10 - answer) : 0 : before.fault();
        due("fault() behind " + refused, behind(before, refused).fault(), fault);
        due("again " + refused, refused.on(behind(before, refused)), answer);
        for (int part = 0; part < PARTS; part++) {
            isSo("questions of part " + part + " behind " + refused,
                java.util.Arrays.equals(asked(behind(before, refused), part), before.asked()[part]));
        }
        for (int k = 0; k < CHANGES.length; k++) {
            isSo(CHANGES[k] + " behind " + refused,
                java.util.Arrays.equals(change(behind(before, refused), CHANGES[k]), before.changed()[k]));
        }
    }

    /** Whether the document tells that a call changes nothing, as it answers so. */
    private static boolean leavesAll(Call call, long answer, Before before) {
        if (isRefusal(answer)) return true;
        if (call.name().equals("strengthen") && answer == NONE) return true;
        // move() by which some went ahead of the one that faulted is the one exception.
        return isFault(answer) && !(call.name().equals("move") && answer == STORE && movesSome(call, before));
    }

    private static boolean movesSome(Call move, Before before) {
        return move.with(4, 1).on(before.made().get()) == 1;
    }

    private static int refusedIn(String situation, Supplier<ClaimChains> made) {
        Before before = Before.of(made);
        int count = 0;
        for (int k = 0; k < CALLS.length; k++) {
            of(k + 2, "REFUSALS, FAULTS change nothing; in: " + situation);
            for (Call call : withEdges(CALLS[k])) {
                long answer = call.on(made.get());
                if (!leavesAll(call, answer, before)) continue;
                dueUnchanged(before, call, answer);
                count++;
            }
        }
        return count;
    }

    public static void main(String[] args) {
        begin("RefusedCallsTest");
        for (Map.Entry<String, Supplier<ClaimChains>> s : situations().entrySet()) {
            int count = refusedIn(s.getKey(), s.getValue());
            isSo("many calls are refused in: " + s.getKey(), count > 500);
            System.out.println(count + " refused calls in: " + s.getKey());
        }
        end();
    }
}
