import java.io.IOException;
import java.lang.reflect.Field;
import java.lang.reflect.Method;
import java.lang.reflect.Modifier;
import java.nio.file.Files;
import java.nio.file.Path;
import java.util.List;
import java.util.TreeSet;
import java.util.regex.Matcher;
import java.util.regex.Pattern;

/** The public face of the document, and those rules of LANGUAGE.md that can be seen from outside. */
public final class FaceTest {
    private static final Due due = new Due("FaceTest");
    private static final String METHODS =
        "int province(int,int) int house(int,int) int string(int,int) int type(int) int clear() int read() "
        + "int sends(int) int waits(int) int undo() int of(int,int) int now(int) int asks(int,int,int) "
        + "int cheapest(int,int) int cuts(int,int,int) int row(int) int came(int,int) int lines(int) int tries() "
        + "int note(int,int,int,int) int mark(int,int,int,int) int forget(int) int is(int) int look(int) "
        + "int kinds(int) int ask(int) int ends(int) int scissors(int) int nights(int,int) long part(int) "
        + "int image(int) int from(int) int status(int) int count(int) long digest()";

    public static void main(String[] args) throws IOException {
        theMethods();
        theFields();
        theClasses();
        theSource();
        due.end();
    }

    private static void theMethods() {
        TreeSet<String> wanted = new TreeSet<>(List.of(METHODS.split(" (?=int |long )")));
        TreeSet<String> found = new TreeSet<>();
        TreeSet<String> publicNames = new TreeSet<>();
        for (Method m : StringToll.class.getDeclaredMethods()) {
            if (Modifier.isPublic(m.getModifiers())) {
                StringBuilder b = new StringBuilder(m.getReturnType() + " " + m.getName() + "(");
                for (int k = 0; k < m.getParameterCount(); k++) {
                    b.append(k == 0 ? "" : ",").append(m.getParameterTypes()[k]);
                }
                found.add(b.append(")").toString());
                publicNames.add(m.getName());
            }
        }
        due.is("how many methods", found.size(), 34);
        due.holds("the methods are the document's: " + found, found.equals(wanted));
        for (Method m : StringToll.class.getDeclaredMethods()) {
            boolean isPrivate = Modifier.isPrivate(m.getModifiers());
            due.holds(m + " is public or private", isPrivate || Modifier.isPublic(m.getModifiers()));
            due.holds(m + " has its name alone", !isPrivate || !publicNames.contains(m.getName()));
        }
        due.is("constructors", StringToll.class.getDeclaredConstructors().length, 1);
        due.holds("it is public", Modifier.isPublic(StringToll.class.getDeclaredConstructors()[0].getModifiers()));
        int modifiers = StringToll.class.getModifiers();
        due.holds("public and final", Modifier.isPublic(modifiers) && Modifier.isFinal(modifiers));
    }

    private static void theFields() {
        TreeSet<String> found = new TreeSet<>();
        for (Field f : StringToll.class.getDeclaredFields()) {
            if (Modifier.isPublic(f.getModifiers())) {
                found.add(f.toString());
            } else {
                due.holds(f + " is private", Modifier.isPrivate(f.getModifiers()));
            }
            due.holds(f + " if static, final",
                !Modifier.isStatic(f.getModifiers()) || Modifier.isFinal(f.getModifiers()));
        }
        TreeSet<String> wanted = new TreeSet<>();
        for (String name : List.of("NONE", "BAD", "NO", "FULL")) {
            wanted.add("public static final int StringToll." + name);
        }
        due.holds("the public fields are the constants: " + found, found.equals(wanted));
    }

    private static void theClasses() {
        Class<?>[] inside = StringToll.class.getDeclaredClasses();
        due.holds("twelve classes at most", inside.length + 1 <= 12);
        for (Class<?> c : inside) {
            due.holds(c + " is static", Modifier.isStatic(c.getModifiers()));
            due.holds(c + " is not public", !Modifier.isPublic(c.getModifiers()));
            for (Method m : c.getDeclaredMethods()) {
                due.holds(m + " has seven parameters at most", m.getParameterCount() <= 7);
            }
        }
    }

    private static void theSource() throws IOException {
        String source = Files.readString(Path.of("src/main/java/StringToll.java"));
        String code = source.replaceAll("(?s)/\\*.*?\\*/", "").replaceAll("//[^\n]*", "");
        String refused = "\\b(throw|throws|try|catch|synchronized|assert|import|package|native|volatile|Object|Exception"
            + "|protected|Random|Thread|equals|hashCode|toString)\\b|->|::|@|\\w+Exact\\b|static \\{";
        Matcher m = Pattern.compile(refused).matcher(code);
        while (m.find()) {
            due.holds("'" + m.group() + "' is inside LANGUAGE.md", false);
        }
        Matcher system = Pattern.compile("System\\.(?!arraycopy)").matcher(code);
        due.holds("System.arraycopy alone", !system.find());
        due.holds("signs 1 to 127 alone", source.chars().allMatch(c -> c >= 1 && c <= 127));
    }
}
