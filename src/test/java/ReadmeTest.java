import java.io.IOException;
import java.lang.reflect.InvocationTargetException;
import java.lang.reflect.Method;
import java.lang.reflect.Modifier;
import java.net.URL;
import java.net.URLClassLoader;
import java.nio.file.Files;
import java.nio.file.Path;
import java.util.ArrayList;
import java.util.List;
import java.util.Set;
import java.util.TreeSet;
import java.util.regex.Matcher;
import java.util.regex.Pattern;
import java.util.stream.Stream;
import javax.tools.ToolProvider;

/**
 * What README.md says is so: its examples are compiled and run as they stand there, each answer held against the one
 * beside its call; its tables are held against the class; the tests that it names against those that there are.
 */
public final class ReadmeTest {
    private static final Path TESTS = Path.of("src/test/java");
    private static final Pattern JAVA_BLOCK = Pattern.compile("(?s)```java\n(.*?)```");
    private static final Pattern NEW_OBJECT = Pattern.compile("ClaimChains x = new ClaimChains\\(\\);");
    private static final Pattern ANSWERED = Pattern.compile("(?:(int|long) (\\w+) = )?(.+?); *// (-?\\d+(?:\\.\\d+)?): .+");
    private static final Pattern IN_QUOTES = Pattern.compile("`(\\w+)\\(([\\w, ]*)\\)`");
    private static final Pattern CONSTANT = Pattern.compile("(?m)^\\| (-\\d+) \\| `(\\w+)` \\|");
    private static final Pattern FAULT = Pattern.compile("(?m)^\\| (-\\d+) \\| \\| fault (\\d) ([A-Z]+):");
    private static final Pattern TEST_NAME = Pattern.compile("`(\\w+Test)`");

    private static final Answers answers = new Answers("ReadmeTest");

    private final String readme;

    private ReadmeTest(String readme) {
        this.readme = readme;
    }

    /** An example's answer, told by the program that is made of it. */
    public static void answered(String call, Object got, String want) {
        answers.isSo("README.md: " + call + " answered " + got + ", there stands " + want, String.valueOf(got).equals(want));
    }

    private void checkExamples() throws IOException, ReflectiveOperationException {
        StringBuilder program = new StringBuilder("public final class ReadmeExamples {\n");
        int count = 0;
        Set<String> called = new TreeSet<>();
        Matcher block = JAVA_BLOCK.matcher(readme);
        while (block.find()) {
            program.append("public static void example").append(count++).append("() {\n");
            for (String line : block.group(1).split("\n")) {
                program.append(statementOf(line)).append('\n');
                Matcher call = Pattern.compile("x\\.(\\w+)\\(").matcher(line);
                while (call.find()) called.add(call.group(1));
            }
            program.append("}\n");
        }
        answers.isSo("there are examples", count > 0);
        for (Method m : face()) answers.isSo("an example shows " + m.getName(), called.contains(m.getName()));
        runAll(program.append("}\n").toString(), count);
    }

    /** Every call of an example has its answer beside it, so that none goes unseen. */
    private static String statementOf(String line) {
        if (NEW_OBJECT.matcher(line).matches()) return line;
        Matcher told = ANSWERED.matcher(line);
        if (!told.matches()) {
            answers.isSo("a line with its answer: " + line, false);
            return "";
        }
        String name = told.group(2), call = told.group(3);
        String got = name == null ? call : name;
        String declared = name == null ? "" : told.group(1) + " " + name + " = " + call + "; ";
        return declared + "ReadmeTest.answered(\"" + call + "\", " + got + ", \"" + told.group(4) + "\");";
    }

    private static void runAll(String program, int count) throws IOException, ReflectiveOperationException {
        Path folder = Files.createTempDirectory("readme");
        try {
            Path source = folder.resolve("ReadmeExamples.java");
            Files.writeString(source, program);
            int code = ToolProvider.getSystemJavaCompiler().run(null, null, null,
                "-cp", System.getProperty("java.class.path"), "-d", folder.toString(), source.toString());
            answers.isSo("the examples compile", code == 0);
            if (code != 0) return;
            try (URLClassLoader loader = new URLClassLoader(new URL[] {folder.toUri().toURL()}, ReadmeTest.class.getClassLoader())) {
                Class<?> examples = loader.loadClass("ReadmeExamples");
                for (int k = 0; k < count; k++) runOne(examples.getMethod("example" + k));
            }
        } finally {
            deleteAll(folder);
        }
    }

    private static void runOne(Method example) throws IllegalAccessException {
        try {
            example.invoke(null);
        } catch (InvocationTargetException e) {
            answers.isSo(example.getName() + " ended by " + e.getCause(), false);
        }
    }

    private static void deleteAll(Path folder) throws IOException {
        try (Stream<Path> files = Files.list(folder)) {
            for (Path file : files.toList()) Files.delete(file);
        }
        Files.delete(folder);
    }

    private static List<Method> face() {
        List<Method> face = new ArrayList<>();
        for (Method m : ClaimChains.class.getDeclaredMethods()) {
            if (Modifier.isPublic(m.getModifiers())) face.add(m);
        }
        return face;
    }

    private void checkCalls() {
        Set<String> due = new TreeSet<>(), got = new TreeSet<>();
        for (Method m : face()) due.add(m.getName() + " of " + m.getParameterCount());
        Matcher call = IN_QUOTES.matcher(readme);
        while (call.find()) {
            int parameters = call.group(2).isEmpty() ? 0 : call.group(2).split(",").length;
            got.add(call.group(1) + " of " + parameters);
        }
        answers.isSo("calls named there " + got, got.equals(due));
    }

    private void checkNumbers() throws ReflectiveOperationException {
        Matcher constant = CONSTANT.matcher(readme);
        int constants = 0;
        while (constant.find()) {
            long value = ((Number) ClaimChains.class.getField(constant.group(2)).get(null)).longValue();
            answers.due("README.md: " + constant.group(2), Long.parseLong(constant.group(1)), value);
            constants++;
        }
        answers.due("constants named there", constants, ClaimChains.class.getFields().length);
        String[] names = {"NULL", "STORE", "INDEX", "SIZE"};
        Matcher fault = FAULT.matcher(readme);
        int faults = 0;
        while (fault.find()) {
            int number = Integer.parseInt(fault.group(2));
            answers.due("README.md: fault " + number, Long.parseLong(fault.group(1)), -10 - number);
            answers.isSo("fault " + number + " is " + fault.group(3), fault.group(3).equals(names[faults]));
            faults++;
        }
        answers.due("faults named there", faults, 4);
    }

    /** Whatever can be run is a test, is named as .ci/run looks for it, and is told of. */
    private void checkTests() throws IOException {
        String howTo = readme.substring(readme.indexOf("## How to run its tests"));
        answers.isSo("the command", howTo.contains("```sh\n.ci/run\n```"));
        answers.isSo("what it names is there", Files.isRegularFile(Path.of(".ci/run")));
        Set<String> runnable = new TreeSet<>(), named = new TreeSet<>();
        try (Stream<Path> files = Files.walk(Path.of("src"))) {
            for (Path file : files.filter(Files::isRegularFile).toList()) {
                if (!Files.readString(file).contains(" static void main(")) continue;
                String name = file.getFileName().toString().replaceFirst("\\.java$", "");
                runnable.add(name);
                answers.isSo(file + " is where .ci/run looks", name.endsWith("Test") && TESTS.equals(file.getParent()));
            }
        }
        Matcher test = TEST_NAME.matcher(howTo);
        while (test.find()) named.add(test.group(1));
        answers.isSo("tests named there " + named + ", there are " + runnable, named.equals(runnable));
    }

    public static void main(String[] args) throws IOException, ReflectiveOperationException {
        ReadmeTest test = new ReadmeTest(Files.readString(Path.of("README.md")));
        test.checkExamples();
        test.checkCalls();
        test.checkNumbers();
        test.checkTests();
        answers.end();
    }
}
