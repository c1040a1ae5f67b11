import java.io.IOException;
import java.nio.file.Files;
import java.nio.file.Path;
import java.util.ArrayList;
import java.util.List;
import java.util.TreeSet;
import java.util.regex.Matcher;
import java.util.regex.Pattern;

/** The parts of README.md that tests hold it to. */
final class Readme {
    private final String page;

    Readme() throws IOException {
        page = Files.readString(Path.of("README.md"));
    }

    /** The lines of the Java that tells how the class is used. */
    List<String> code() {
        Matcher m = Pattern.compile("(?s)```java\n(.*?)```").matcher(section("How to use it"));
        List<String> lines = new ArrayList<>();
        while (m.find()) {
            lines.addAll(List.of(m.group(1).split("\n")));
        }
        return lines;
    }

    /** The one command that runs the tests, empty if there is none or more than one. */
    String command() {
        Matcher m = Pattern.compile("(?m)^    (\\S.*)$").matcher(section("How to run its tests"));
        String command = m.find() ? m.group(1).strip() : "";
        return m.find() ? "" : command;
    }

    /** The names that stand first in the rows of a section's tables. */
    TreeSet<String> named(String heading) {
        Matcher m = Pattern.compile("(?m)^\\| `(\\w+)` \\|").matcher(section(heading));
        TreeSet<String> names = new TreeSet<>();
        while (m.find()) {
            names.add(m.group(1));
        }
        return names;
    }

    private String section(String heading) {
        Matcher m = Pattern.compile("(?s)## " + Pattern.quote(heading) + "\n(.*?)(?=\n## |\\z)").matcher(page);
        return m.find() ? m.group(1) : "";
    }
}
