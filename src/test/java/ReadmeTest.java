import java.io.IOException;
import java.lang.reflect.Method;
import java.lang.reflect.Modifier;
import java.net.URL;
import java.net.URLClassLoader;
import java.nio.file.Files;
import java.nio.file.Path;
import java.util.ArrayList;
import java.util.List;
import java.util.TreeSet;
import java.util.regex.Matcher;
import java.util.regex.Pattern;
import java.util.stream.Stream;
import javax.tools.ToolProvider;

/** README.md: its calls are all there are and answer as it tells, its tables name what there is. */
public final class ReadmeTest {
    private static final Due due = new Due("ReadmeTest");
    private static final Pattern CALL = Pattern.compile("(x\\.(\\w+)\\([^;]*\\));\\s*(?://\\s*(-?\\d+)(?:: .*)?)?");

    public static void main(String[] args) throws IOException, ReflectiveOperationException {
        Readme readme = new Readme();
        answersAreTold(readme.code());
        allCallsAreTold(readme.code());
        answersAreSo(readme.code());
        classesAreSo(readme);
        testsAreSo(readme);
        due.end();
    }

    /** Only a call that stands inside a loop has no answer of its own. */
    private static void answersAreTold(List<String> code) {
        for (String line : code) {
            Matcher m = CALL.matcher(line);
            due.holds("an answer is told: " + line, !line.startsWith("x.") || m.matches() && m.group(3) != null);
        }
    }

    private static void allCallsAreTold(List<String> code) {
        TreeSet<String> told = new TreeSet<>();
        for (String line : code) {
            Matcher m = CALL.matcher(line.strip());
            if (m.matches()) {
                told.add(m.group(2));
            }
        }
        TreeSet<String> there = new TreeSet<>();
        for (Method m : StringToll.class.getDeclaredMethods()) {
            if (Modifier.isPublic(m.getModifiers())) {
                there.add(m.getName());
            }
        }
        due.holds("all calls are told: " + told, told.equals(there));
    }

    /** The code is compiled as it stands, but each call whose answer is told hands its answer over beside that. */
    private static void answersAreSo(List<String> code) throws IOException, ReflectiveOperationException {
        StringBuilder source = new StringBuilder("public final class ReadmeCalls {\n");
        source.append("public static void run(java.util.List<long[]> answers) {\n");
        for (String line : code) {
            Matcher m = CALL.matcher(line);
            boolean isTold = m.matches() && m.group(3) != null;
            source.append(isTold ? "answers.add(new long[] {" + m.group(1) + ", " + m.group(3) + "L});" : line);
            source.append('\n');
        }
        List<long[]> answers = new ArrayList<>();
        compiled("ReadmeCalls", source.append("}\n}\n").toString()).getMethod("run", List.class).invoke(null, answers);
        List<String> calls = code.stream().filter(line -> line.startsWith("x.")).toList();
        due.is("how many calls answered", answers.size(), calls.size());
        for (int k = 0; k < answers.size() && k < calls.size(); k++) {
            due.is(calls.get(k), answers.get(k)[0], answers.get(k)[1]);
        }
    }

    private static Class<?> compiled(String name, String source) throws IOException, ReflectiveOperationException {
        Path folder = Files.createTempDirectory("readme");
        Path file = folder.resolve(name + ".java");
        Files.writeString(file, source);
        String classes = System.getProperty("java.class.path");
        int code = ToolProvider.getSystemJavaCompiler().run(null, null, null,
            "-cp", classes, "-d", folder.toString(), file.toString());
        due.is("the code compiles", code, 0);
        try (URLClassLoader loader = new URLClassLoader(new URL[] {folder.toUri().toURL()})) {
            return loader.loadClass(name);
        } finally {
            Files.deleteIfExists(folder.resolve(name + ".class"));
            Files.deleteIfExists(file);
            Files.deleteIfExists(folder);
        }
    }

    private static void classesAreSo(Readme readme) {
        TreeSet<String> there = new TreeSet<>();
        for (Class<?> inside : StringToll.class.getDeclaredClasses()) {
            there.add(inside.getSimpleName());
        }
        due.holds("the classes inside are " + there, readme.named("How it is laid out").equals(there));
    }

    private static void testsAreSo(Readme readme) throws IOException {
        TreeSet<String> there = new TreeSet<>();
        try (Stream<Path> files = Files.list(Path.of("src/test/java"))) {
            files.map(file -> file.getFileName().toString()).filter(name -> name.endsWith("Test.java"))
                .forEach(name -> there.add(name.replace(".java", "")));
        }
        due.holds("the tests are " + there, readme.named("How to run its tests").equals(there));
    }
}
