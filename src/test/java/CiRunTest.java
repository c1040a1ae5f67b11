import java.io.IOException;
import java.nio.file.Files;
import java.nio.file.Path;
import java.nio.file.StandardCopyOption;
import java.util.ArrayList;
import java.util.Comparator;
import java.util.List;
import java.util.stream.Stream;

/** The command that README.md tells runs every test of a checkout and every shared one, and fails if one fails. */
public final class CiRunTest {
    private static final Due due = new Due("CiRunTest");
    private static final String COMPONENT = "main/src/main/java/StringToll.java";
    private static final String ONE = "main/src/test/java/OneTest.java";
    private static final String OTHER = "main/src/test/java/OtherTest.java";
    private static final String SHARED = "shared/tests/Runs.java";
    private static final String SHARED_TOO = "shared/tests/Walks.java";

    /** A checkout with small files in the place of the project's, and the run of the command in it. */
    private static final class Checkout {
        private final Path root = Files.createTempDirectory("checkout");
        private final Path printed = root.resolve("printed");
        private Process run;

        Checkout() throws IOException {
            Path script = Path.of(".ci/run");
            Files.createDirectories(root.resolve("main/.ci"));
            Files.copy(script, root.resolve("main/.ci/run"), StandardCopyOption.COPY_ATTRIBUTES);
            put(COMPONENT, "public final class StringToll { }");
            put(ONE, test("OneTest", 0));
            put(OTHER, test("OtherTest", 0));
            put(SHARED, test("Runs", 0));
            put(SHARED_TOO, test("Walks", 0));
        }

        void put(String file, String source) throws IOException {
            Files.createDirectories(root.resolve(file).getParent());
            Files.writeString(root.resolve(file), source);
        }

        void remove(String file) throws IOException {
            Files.delete(root.resolve(file));
        }

        void begin(String folder, String command) throws IOException {
            ProcessBuilder builder = new ProcessBuilder("sh", "-c", command);
            builder.directory(root.resolve(folder).toFile()).redirectErrorStream(true).redirectOutput(printed.toFile());
            run = builder.start();
        }

        /** The exit code, behind it what was printed, by line. */
        List<String> end() throws IOException, InterruptedException {
            List<String> lines = new ArrayList<>();
            lines.add(Integer.toString(run.waitFor()));
            lines.addAll(Files.readAllLines(printed));
            try (Stream<Path> files = Files.walk(root)) {
                for (Path file : files.sorted(Comparator.reverseOrder()).toList()) {
                    Files.delete(file);
                }
            }
            return lines;
        }
    }

    public static void main(String[] args) throws IOException, InterruptedException {
        String command = new Readme().command();
        due.holds("README.md tells one command: " + command, !command.isEmpty());
        due.holds(".ci/run may be run", Files.isExecutable(Path.of(".ci/run")));
        Checkout good = new Checkout();
        Checkout fromOutside = new Checkout();
        Checkout failing = with(ONE, test("OneTest", 1));
        Checkout throwing = with(OTHER, "class OtherTest { public static void main(String[] a) { throw new Error(); } }");
        Checkout broken = with(ONE, "class OneTest {");
        Checkout sharedFailing = with(SHARED, test("Runs", 1));
        Checkout sharedBroken = with(SHARED_TOO, "class Walks {");
        Checkout classBroken = with(COMPONENT, "public final class StringToll {");
        Checkout warned = with(COMPONENT, "public final class StringToll { private Object o = new java.util.ArrayList(); }");
        Checkout without = new Checkout();
        without.remove(SHARED);
        without.remove(SHARED_TOO);
        fromOutside.begin(".", "bash main/.ci/run");
        for (Checkout c : List.of(good, failing, throwing, broken, sharedFailing, sharedBroken, classBroken, warned,
                without)) {
            c.begin("main", command);
        }
        passes("all good", good.end());
        passes("from another folder", fromOutside.end());
        fails("a test of the project fails", failing.end(), "FAIL OneTest", "ok   OtherTest", "ok   shared Runs");
        fails("a test of the project throws", throwing.end(), "FAIL OtherTest", "ok   OneTest", "ok   shared Walks");
        fails("a test of the project does not compile", broken.end(), "FAIL OneTest", "ok   shared Runs");
        fails("a shared test fails", sharedFailing.end(), "FAIL shared Runs", "ok   shared Walks", "ok   OneTest");
        fails("a shared test does not compile", sharedBroken.end(), "FAIL shared Walks", "ok   shared Runs");
        fails("the class does not compile", classBroken.end(), "FAIL OneTest", "FAIL shared Runs");
        fails("the class has a warning", warned.end(), "ok   OneTest", "ok   shared Runs");
        fails("no shared test is there", without.end(), "ok   OneTest", "ok   OtherTest");
        due.end();
    }

    private static Checkout with(String file, String source) throws IOException {
        Checkout checkout = new Checkout();
        checkout.put(file, source);
        return checkout;
    }

    private static String test(String name, int code) {
        return "class " + name + " { public static void main(String[] a) { System.out.println(\"ran " + name + "\"); "
            + "System.exit(" + code + "); } }";
    }

    private static void passes(String what, List<String> lines) {
        due.is(what + ": exit code", Long.parseLong(lines.get(0)), 0);
        for (String name : List.of("OneTest", "OtherTest", "Runs", "Walks")) {
            due.holds(what + ": it ran " + name, lines.contains("ran " + name));
        }
        due.holds(what + ": ends with its count", lines.get(lines.size() - 1).matches("[1-9]\\d* passed, 0 failed"));
    }

    private static void fails(String what, List<String> lines, String... wanted) {
        due.is(what + ": exit code", Long.parseLong(lines.get(0)), 1);
        for (String line : wanted) {
            due.holds(what + ": prints " + line, lines.contains(line));
        }
        due.holds(what + ": ends with its count", lines.get(lines.size() - 1).matches("\\d+ passed, [1-9]\\d* failed"));
    }
}
