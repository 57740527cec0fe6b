import java.io.IOException;
import java.lang.reflect.Constructor;
import java.lang.reflect.Field;
import java.lang.reflect.Method;
import java.lang.reflect.Modifier;
import java.nio.file.Files;
import java.nio.file.Path;
import java.util.List;
import java.util.Set;
import java.util.TreeSet;
import java.util.regex.Pattern;

/** Those rules of LANGUAGE.md that can be read off the class and its source: its face, its words, its library. */
public final class LanguageTest {
    private static final Path SOURCE = Path.of("src/main/java/ClaimChains.java");
    private static final String[] FACE = {
        "int leaf(int,int)", "int gate(int,int,int)", "int choice(int,int,int)", "int ofTerm(int,int)", "long leaves(int)",
        "int value(int,int,int)", "int holds(int,int)", "int alike(int,int)", "int starts(int)", "int next(int,int)",
        "int claim(int)", "int step(int,int)", "int before(int)", "int distance(int)", "int met(int)", "int way(int,int)",
        "int loose(int)", "int cone(int)", "int clear(int)", "int shut(int)", "int settle(int)", "int chain(int,int,int)",
        "int weak(int)", "int strengthen()", "int lemma(int)", "int block(int)", "int back()", "int ofLemma(int,int)",
        "int closed()", "int chance(int)", "long mean()", "int box(int,int,int)", "int lay(int,int,int)", "int take(int,int)",
        "int same(int,int)", "int move(int,int,int,int,int)", "int states(int,int,int)", "int lose(int)", "int fault()",
        "int many(int)"};
    private static final String[] FORBIDDEN = {
        "\\bthrow\\b", "\\bthrows\\b", "\\btry\\b", "\\bcatch\\b", "\\bsynchronized\\b", "\\bassert\\b", "->", "::", "\\bimport\\b",
        "\\bpackage\\b", "Exact\\b", "\\bstatic \\{"};

    private static final Answers answers = new Answers("LanguageTest");

    private static void checkFace() {
        Class<?> c = ClaimChains.class;
        answers.isSo("public and final", Modifier.isPublic(c.getModifiers()) && Modifier.isFinal(c.getModifiers()));
        Set<String> due = new TreeSet<>(Set.of(FACE)), got = new TreeSet<>();
        for (Method m : c.getDeclaredMethods()) {
            if (!Modifier.isPrivate(m.getModifiers())) got.add(told(m));
        }
        answers.isSo("methods " + got, got.equals(due));
        Set<String> constants = new TreeSet<>();
        for (Field f : c.getDeclaredFields()) {
            if (!Modifier.isPrivate(f.getModifiers())) constants.add(f.getType() + " " + f.getName());
        }
        checkStaticFields(c);
        answers.isSo("constants " + constants, constants.equals(new TreeSet<>(Set.of(
            "int UNKNOWN", "int OUTSIDE", "int STATE", "int FULL", "int NONE", "long LOST"))));
        Constructor<?>[] constructors = c.getDeclaredConstructors();
        answers.isSo("one constructor without parameters",
            constructors.length == 1 && constructors[0].getParameterCount() == 0);
    }

    private static String told(Method m) {
        StringBuilder text = new StringBuilder(m.getReturnType() + " " + m.getName() + "(");
        for (Class<?> p : m.getParameterTypes()) text.append(text.charAt(text.length() - 1) == '(' ? "" : ",").append(p);
        return text.append(")").toString();
    }

    private static void checkClassesInside() {
        Set<String> names = new TreeSet<>();
        for (Method m : ClaimChains.class.getDeclaredMethods()) {
            if (Modifier.isPublic(m.getModifiers())) names.add(m.getName());
        }
        checkPrivateNames(ClaimChains.class, names);
        Class<?>[] inside = ClaimChains.class.getDeclaredClasses();
        answers.isSo("at most twelve classes", inside.length <= 12);
        for (Class<?> c : inside) {
            answers.isSo(c + " is static", Modifier.isStatic(c.getModifiers()));
            answers.isSo(c + " is not public", !Modifier.isPublic(c.getModifiers()) && !Modifier.isProtected(c.getModifiers()));
            checkPrivateNames(c, names);
            checkStaticFields(c);
        }
    }

    /** Nothing that changes is static, and what is static is of a kind that rule 5 names. */
    private static void checkStaticFields(Class<?> c) {
        Set<Class<?>> kinds = Set.of(int.class, long.class, boolean.class, char.class, String.class,
            int[].class, long[].class, char[].class, byte[].class);
        for (Field f : c.getDeclaredFields()) {
            if (!Modifier.isStatic(f.getModifiers())) continue;
            answers.isSo(f + " is final", Modifier.isFinal(f.getModifiers()));
            answers.isSo(f + " is of a kind that may be static", kinds.contains(f.getType()));
        }
    }

    private static void checkPrivateNames(Class<?> c, Set<String> publicNames) {
        for (Method m : c.getDeclaredMethods()) {
            boolean isFace = c == ClaimChains.class && Modifier.isPublic(m.getModifiers());
            answers.isSo(c + " has a name of its own: " + m.getName(), isFace || !publicNames.contains(m.getName()));
            answers.isSo(m.getName() + " has at most seven parameters", m.getParameterCount() <= 7);
        }
        int fields = 0;
        for (Field f : c.getDeclaredFields()) {
            if (!Modifier.isStatic(f.getModifiers())) fields++;
        }
        answers.isSo(c + " has at most twenty fields", fields <= 20);
    }

    private static void checkWords() throws IOException {
        String source = Files.readString(SOURCE).replaceAll("(?s)/\\*.*?\\*/", "").replaceAll("//[^\n]*", "");
        for (String word : FORBIDDEN) answers.isSo("none of " + word, !Pattern.compile(word).matcher(source).find());
        for (char sign : source.toCharArray()) {
            if (sign > 126) answers.isSo("a sign beyond 126", false);
        }
        var library = Pattern.compile("\\b(?:Integer|Long|Math|System|Arrays)\\.(\\w+)").matcher(source);
        Set<String> allowed = Set.of("bitCount", "max", "min", "MIN_VALUE");
        while (library.find()) answers.isSo("library: " + library.group(), allowed.contains(library.group(1)));
    }

    /** A method begins with a line that ends in a brace, and ends with a brace as far in as it began. */
    private static void checkLengths() throws IOException {
        List<String> lines = Files.readAllLines(SOURCE);
        int methods = 0;
        for (int from = 0; from < lines.size(); from++) {
            String line = lines.get(from);
            if (!line.matches(" +(public|private) [^=]*\\) \\{")) continue;
            String end = line.replaceFirst("\\S.*", "}");
            int to = from;
            while (to < lines.size() && !lines.get(to).equals(end)) to++;
            answers.isSo("at most sixty lines: " + line.trim(), to < lines.size() && to - from < 60);
            methods++;
        }
        answers.isSo("methods are found by their lines: " + methods, methods > FACE.length);
    }

    /** Nothing is made behind the constructor, so that no run can fill the room. */
    private static void checkThatNothingIsMade() throws IOException {
        for (String line : Files.readAllLines(SOURCE)) {
            if (!line.contains("new ") || line.trim().startsWith("*") || line.trim().startsWith("/")) continue;
            boolean isField = line.matches(" {8}private final .*");
            boolean inConstructor = line.matches(" {8}(terms|machine|lemmas|chains|walks|boxes|carried|for \\(int b).*");
            answers.isSo("made in a constructor: " + line.trim(), isField || inConstructor);
        }
    }

    public static void main(String[] args) throws IOException {
        checkFace();
        checkClassesInside();
        checkWords();
        checkLengths();
        checkThatNothingIsMade();
        answers.end();
    }
}
