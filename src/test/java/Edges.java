import java.util.Set;
import java.util.TreeSet;
import java.util.function.Supplier;

/** What the tests of the boundary cases share: each check is told with its promise and the sentence that it is of. */
abstract class Edges extends Fixtures {
    private static Answers answers = new Answers("no test");
    private static String sentence = "";

    static void begin(String test) {
        answers = new Answers(test);
    }

    static void end() {
        answers.end();
    }

    /** The promise, and the words of it, that the checks from here on are of. */
    static void of(int promise, String words) {
        sentence = "promise " + promise + " (" + words + "): ";
    }

    static void due(String what, long got, long want) {
        answers.due(sentence + what, got, want);
    }

    static void due(ClaimChains x, Call call, long want) {
        due(call.toString(), call.on(x), want);
    }

    static void isSo(String what, boolean so) {
        answers.isSo(sentence + what, so);
    }

    static Call call(String name, int... arguments) {
        return new Call(name, arguments);
    }

    /** Numbers that are not from least to greatest: the first ones below and above, the ends of the ints,
     *  and those that would pass if a higher bit or the sign were lost. */
    static Set<Integer> beyond(int least, int greatest) {
        Set<Integer> numbers = new TreeSet<>();
        for (int n : new int[] {least - 1, least - 2, greatest + 1, greatest + 2, LOW, LOW + 1, HIGH, HIGH - 1}) numbers.add(n);
        for (int bit = 2; bit < 32; bit++) {
            numbers.add(least ^ 1 << bit);
            numbers.add(greatest ^ 1 << bit);
        }
        numbers.add(-greatest);
        numbers.removeIf(n -> n >= least && n <= greatest);
        return numbers;
    }

    /** In one place of a call each number from least to greatest is taken, and every other is answered by a refusal. */
    static void bounds(Supplier<ClaimChains> made, Call call, int place, int least, int greatest, long refusal) {
        ClaimChains x = made.get();
        for (int n : beyond(least, greatest)) due(x, call.with(place, n), refusal);
        for (int n = least; n <= greatest; n++) {
            Call within = call.with(place, n);
            isSo(within + " is not refused", within.on(made.get()) != refusal);
        }
    }

    /** Bounds of a place in which a term's number stands; each term's number is below the count of them. */
    static void termBounds(Supplier<ClaimChains> made, Call call, int place, long refusal) {
        bounds(made, call, place, 0, made.get().many(0) - 1, refusal);
    }
}
