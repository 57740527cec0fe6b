import java.io.IOException;
import java.nio.file.Files;
import java.nio.file.Path;
import java.util.Comparator;
import java.util.stream.Stream;

/** .ci/run itself, in small projects made for it: it runs each test, and fails if one fails. */
public final class CiRunTest {
    private static final Answers answers = new Answers("CiRunTest");

    private final Path folder;
    private final Path project;

    private CiRunTest() throws IOException {
        folder = Files.createTempDirectory("ci");
        project = folder.resolve("main");
        copy(".ci/run");
        copy("src/main/java/ClaimChains.java");
        Files.createDirectories(project.resolve("src/test/java"));
        Files.createDirectories(folder.resolve("shared/tests"));
    }

    private void copy(String name) throws IOException {
        Path to = project.resolve(name);
        Files.createDirectories(to.getParent());
        Files.copy(Path.of(name), to);
    }

    private static String program(String name, String body) {
        return "public final class " + name + " { public static void main(String[] args) { " + body + " } }\n";
    }

    private static String ends(String name, int code) {
        return "if (new ClaimChains().many(0) == 0) { System.out.println(\"ran " + name + "\"); System.exit(" + code + "); }";
    }

    /** A test of the project that ends with a code. */
    private CiRunTest own(String name, int code) throws IOException {
        return ownOf(name, ends(name, code));
    }

    private CiRunTest ownOf(String name, String body) throws IOException {
        Files.writeString(project.resolve("src/test/java/" + name + ".java"), program(name, body));
        return this;
    }

    /** A shared test that ends with a code. */
    private CiRunTest shared(String name, int code) throws IOException {
        return sharedOf(name, ends(name, code));
    }

    private CiRunTest sharedOf(String name, String body) throws IOException {
        Files.writeString(folder.resolve("shared/tests/" + name + ".java"), program(name, body));
        return this;
    }

    /** Whether .ci/run passes as due, and has run each of some tests: from another folder, as CI may start it. */
    private void due(String what, boolean passes, String... ran) throws IOException, InterruptedException {
        try {
            Process process = new ProcessBuilder("sh", project.resolve(".ci/run").toString())
                .directory(folder.toFile()).redirectErrorStream(true).start();
            String told = new String(process.getInputStream().readAllBytes());
            answers.due(what + ": passes", process.waitFor() == 0 ? 1 : 0, passes ? 1 : 0);
            for (String name : ran) answers.isSo(what + ": " + name + " ran", told.contains("ran " + name + "\n"));
        } finally {
            deleteAll();
        }
    }

    private void deleteAll() throws IOException {
        try (Stream<Path> files = Files.walk(folder)) {
            for (Path file : files.sorted(Comparator.reverseOrder()).toList()) Files.delete(file);
        }
    }

    public static void main(String[] args) throws IOException, InterruptedException {
        new CiRunTest().own("ATest", 0).own("BTest", 0).shared("C", 0).shared("D", 0)
            .due("all pass", true, "ATest", "BTest", "C", "D");
        new CiRunTest().own("ATest", 1).own("BTest", 0).shared("C", 0)
            .due("a test of the project fails", false, "ATest", "BTest", "C");
        new CiRunTest().own("ATest", 0).shared("C", 1).shared("D", 0)
            .due("a shared test fails", false, "ATest", "C", "D");
        new CiRunTest().own("ATest", 0).ownOf("BTest", "int a = ;").shared("C", 0)
            .due("a test of the project does not compile", false, "C");
        new CiRunTest().own("ATest", 0).shared("C", 0).sharedOf("D", "int a = ;")
            .due("a shared test does not compile", false, "ATest", "C");
        new CiRunTest().own("ATest", 0).own("BTest", 0)
            .due("no shared test", false, "ATest", "BTest");
        new CiRunTest().shared("C", 0).shared("D", 0)
            .due("no test of the project", false, "C", "D");
        answers.end();
    }
}
