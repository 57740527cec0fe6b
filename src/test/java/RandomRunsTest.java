import java.lang.reflect.Method;
import java.util.ArrayList;
import java.util.HashMap;
import java.util.List;
import java.util.Map;
import java.util.Random;

/** Many runs of random calls (the same ones each time), each answer held against PlainModel's. */
public final class RandomRunsTest {
    /** What each argument of a call is: T term, S state, R row, B box, P place, N places,
     *  C chain's or walk's length, a digit: 0 .. that digit; G, W, L, D as argument() tells. */
    private static final String[] CALLS = {
        "leaf 2 3", "gate G T T", "choice T T T", "ofTerm T 6", "leaves T", "value T S R", "holds T R", "alike T T",
        "starts T", "next 3 T", "claim T", "step S R", "before S", "distance S", "met 5", "way W 1", "loose L", "cone 1",
        "clear D", "shut C", "settle C", "chain C C 1", "weak 1", "strengthen", "lemma T", "block B", "back", "ofLemma 7 2",
        "closed", "chance C", "mean", "box B 3 N", "lay B P T", "take B P", "same B B", "move B P B P 4", "states B R 1",
        "lose B", "fault", "many 5"};
    private static final int NO_TERM = -1;
    private static final String[] MACHINE = {
        "starts", "next", "claim"};
    private static final String[] BOXES = {
        "box", "lay", "lay", "lay", "lay", "lay", "take", "take", "same", "move", "move", "move", "states", "block", "fault"};
    private static final String[] PROOF = {
        "strengthen", "strengthen", "lemma", "lemma", "weak", "ofLemma", "closed", "settle", "shut", "chain", "back", "many", "block"};

    private static final Map<String, String[]> shapes = new HashMap<>();
    private static final Map<String, Method> ours = new HashMap<>(), plain = new HashMap<>();

    private final Answers answers;
    private final Random random;
    private final ClaimChains x = new ClaimChains();
    private final PlainModel y = new PlainModel();
    private final List<String> run = new ArrayList<>();
    private final long seed;
    private Object[] lastChain = {1, 0, 0};

    private RandomRunsTest(Answers answers, long seed) {
        this.answers = answers;
        this.seed = seed;
        random = new Random(seed);
    }

    private int argument(char kind) {
        if (random.nextInt(60) == 0) return random.nextBoolean() ? Integer.MIN_VALUE : Integer.MAX_VALUE;
        switch (kind) {
            case 'T': return known(x.many(0), 40);
            case 'G': return random.nextInt(30) == 0 ? random.nextInt(9) : 3 + random.nextInt(4);
            case 'S': return known(16, 0);
            case 'R': return known(4, 0);
            case 'B': return known(4, 0);
            case 'W': return known(random.nextBoolean() ? 4 : 16, 0);
            case 'L': return random.nextInt(6) - 2;
            case 'D': return known(17, 0);
            case 'C': return known(9, 0);
            case 'N': return random.nextInt(30) == 0 ? -1 - random.nextInt(3) : 1 + known(8, 0);
            case 'P': return random.nextInt(10) == 0 ? known(9, 0) : known(5, 0);
            default: return known(kind - '0' + 1, 0);
        }
    }

    /** Mostly a number below a count, now and then one that is not. */
    private int known(int count, int far) {
        int odd = random.nextInt(40);
        if (odd == 0) return -1;
        if (odd == 1) return count + (far > 0 ? random.nextInt(far) : 0);
        return count == 0 ? 0 : random.nextInt(count);
    }

    private void call(String name) throws ReflectiveOperationException {
        String[] shape = shapes.get(name);
        Object[] arguments = new Object[shape.length - 1];
        for (int i = 0; i < arguments.length; i++) arguments[i] = argument(shape[i + 1].charAt(0));
        // The same question again, perhaps of another machine: what is kept of it must not be told then.
        if (name.equals("chain") && random.nextInt(3) != 0) arguments = lastChain;
        if (name.equals("chain")) lastChain = arguments;
        callWith(name, arguments);
    }

    private void callWith(String name, Object... arguments) throws ReflectiveOperationException {
        long got = ((Number) ours.get(name).invoke(x, arguments)).longValue();
        long want = ((Number) plain.get(name).invoke(y, arguments)).longValue();
        String told = name + java.util.Arrays.toString(arguments);
        run.add(told + " = " + got);
        answers.due("seed " + seed + ": " + told, got, want);
    }

    /** A machine with few starts and few broken states, so that ways and chains are long now and then. */
    private void prepare() throws ReflectiveOperationException {
        for (int v = 0; v < 4; v++) callWith("leaf", 1, v);
        callWith("leaf", 2, 0);
        callWith("leaf", 2, 1);
        callWith("leaf", 0, 1);
        if (random.nextInt(6) != 0) callWith("starts", cube(2 + random.nextInt(3)));
        if (random.nextInt(8) != 0) callWith("claim", newGate(3, cube(1 + random.nextInt(4)), 0));
        int count = random.nextInt(16);
        for (int k = 0; k < count; k++) call(random.nextInt(4) == 0 ? "choice" : "gate");
        for (int v = 0; v < 4; v++) {
            if (random.nextInt(6) != 0) callWith("next", v, random.nextInt(x.many(0)));
        }
    }

    /** A term that is 1 just where some variables are as told: made by calls on both. */
    private int cube(int width) throws ReflectiveOperationException {
        int first = random.nextInt(4);
        int all = NO_TERM;
        for (int k = 0; k < width; k++) {
            int literal = (first + k) % 4;
            if (random.nextBoolean()) literal = newGate(3, literal, 0);
            all = all == NO_TERM ? literal : newGate(4, all, literal);
        }
        return all;
    }

    private int newGate(int kind, int a, int b) throws ReflectiveOperationException {
        callWith("gate", kind, a, b);
        return y.gate(kind, a, b);
    }

    private static String oneOf(String[] names, Random random) {
        return names[random.nextInt(names.length)].split(" ")[0];
    }

    private void go() throws ReflectiveOperationException {
        if (random.nextInt(8) != 0) prepare();
        int style = random.nextInt(4);
        while (run.size() < 300 && !answers.anyWrong()) {
            int die = random.nextInt(100);
            if (style == 1 && die < 85) call(oneOf(BOXES, random));
            else if (style == 2 && die < 80) call(oneOf(PROOF, random));
            else if (style == 3 && die < 10) call(oneOf(MACHINE, random));
            else callUnlessItUndoes(oneOf(CALLS, random));
        }
        if (answers.anyWrong()) System.out.println(String.join("\n", run));
    }

    /** What is told of the machine ends all lemmas: seldom enough that some stay for a while, and boxes too. */
    private void callUnlessItUndoes(String name) throws ReflectiveOperationException {
        boolean undoes = name.equals("lose") || List.of(MACHINE).contains(name);
        if (undoes && random.nextInt(6) != 0) return;
        call(name);
    }

    public static void main(String[] args) throws ReflectiveOperationException {
        for (String line : CALLS) shapes.put(line.split(" ")[0], line.split(" "));
        for (Method m : ClaimChains.class.getDeclaredMethods()) {
            if (shapes.containsKey(m.getName())) ours.put(m.getName(), m);
        }
        for (Method m : PlainModel.class.getDeclaredMethods()) {
            if (shapes.containsKey(m.getName())) plain.put(m.getName(), m);
        }
        Answers answers = new Answers("RandomRunsTest");
        long runs = args.length > 0 ? Long.parseLong(args[0]) : 2500;
        for (long seed = 0; seed < runs && !answers.anyWrong(); seed++) new RandomRunsTest(answers, seed).go();
        answers.end();
    }
}
