import java.io.IOException;
import java.lang.reflect.InvocationTargetException;
import java.lang.reflect.Method;
import java.lang.reflect.Modifier;
import java.nio.file.Files;
import java.nio.file.Path;
import java.util.List;
import java.util.Set;
import java.util.TreeSet;
import java.util.regex.Matcher;
import java.util.regex.Pattern;

/** README.md fits the class and its tests: its example is called as it is written there, and no name is missing. */
public final class ReadmeTest {
    private static final Check CHECK = new Check("ReadmeTest");
    private static final Path README = Path.of("README.md");
    private static final Path TESTS = Path.of("src/test/java");
    private static final String CREATION = "EnclosureReferee referee = new EnclosureReferee();";
    private static final Pattern CALL = Pattern.compile("referee\\.(\\w+)\\((.*)\\); +// ([\\w.-]+)(: .*)?");
    private static final Pattern TEST_NAME = Pattern.compile("\\b\\w+Test\\b");

    private ReadmeTest() {
    }

    public static void main(String[] args) throws IOException, IllegalAccessException {
        String text = Files.readString(README);
        example(text.substring(text.indexOf("```java\n") + 8, text.indexOf("```\n\n### Numbers")).split("\n"));
        calls(text.substring(text.indexOf("### Calls"), text.indexOf("## Tests")));
        tests(text.substring(text.indexOf("## Tests")));
        CHECK.end();
    }

    private static void example(String[] lines) throws IllegalAccessException {
        EnclosureReferee referee = new EnclosureReferee();
        CHECK.same("the first line", lines[0], CREATION);
        CHECK.same("some calls", lines.length > 20, true);
        for (int i = 1; i < lines.length; i++) {
            Matcher call = CALL.matcher(lines[i]);
            CHECK.same("a call with its answer: " + lines[i], call.matches(), true);
            if (call.matches()) {
                CHECK.same(lines[i], answer(referee, call.group(1), call.group(2)), call.group(3));
            }
        }
    }

    private static String answer(EnclosureReferee referee, String name, String list) throws IllegalAccessException {
        String[] words = list.isEmpty() ? new String[0] : list.split(", ");
        try {
            return String.valueOf(method(name, words.length).invoke(referee, arguments(words)));
        } catch (InvocationTargetException e) {
            return e.getCause().getClass().getSimpleName();
        }
    }

    private static Method method(String name, int parameters) {
        for (Method method : EnclosureReferee.class.getMethods()) {
            if (method.getName().equals(name) && method.getParameterCount() == parameters) {
                return method;
            }
        }
        throw new IllegalArgumentException(name + " with " + parameters + " parameters");
    }

    private static Object[] arguments(String[] words) {
        Object[] arguments = new Object[words.length];
        for (int i = 0; i < words.length; i++) {
            if (words[i].startsWith("'")) {
                arguments[i] = words[i].charAt(1);
            } else {
                arguments[i] = words[i].equals("EnclosureReferee.PASS")
                        ? (Integer) EnclosureReferee.PASS : Integer.valueOf(words[i]);
            }
        }
        return arguments;
    }

    /** Every method of the face stands in the table of calls with the right number of parameters, and no other one. */
    private static void calls(String table) {
        Set<String> named = new TreeSet<>();
        Matcher call = Pattern.compile("`(\\w+)\\(([^)]*)\\)`").matcher(table);
        while (call.find()) {
            int parameters = call.group(2).isEmpty() ? 0 : call.group(2).split(", ").length;
            named.add(call.group(1) + " " + parameters);
        }
        Set<String> due = new TreeSet<>();
        for (Method method : EnclosureReferee.class.getDeclaredMethods()) {
            if (Modifier.isPublic(method.getModifiers())) {
                due.add(method.getName() + " " + method.getParameterCount());
            }
        }
        CHECK.same("the calls that README.md names", named.toString(), due.toString());
    }

    /** Every test stands in the table of tests, and no other one; and the classes that only help are named too. */
    private static void tests(String text) throws IOException {
        Set<String> named = new TreeSet<>();
        Matcher name = TEST_NAME.matcher(text);
        while (name.find()) {
            named.add(name.group());
        }
        Set<String> due = new TreeSet<>();
        for (String file : files()) {
            if (file.endsWith("Test")) {
                due.add(file);
            } else {
                CHECK.same(file + " is named", text.contains("`" + file + "`"), true);
            }
        }
        CHECK.same("the tests that README.md names", named.toString(), due.toString());
    }

    private static List<String> files() throws IOException {
        try (var paths = Files.list(TESTS)) {
            return paths.map(path -> path.getFileName().toString().replace(".java", "")).sorted().toList();
        }
    }
}
