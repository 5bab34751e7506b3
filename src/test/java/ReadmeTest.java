import java.io.IOException;
import java.lang.reflect.Constructor;
import java.lang.reflect.Executable;
import java.lang.reflect.Method;
import java.lang.reflect.Modifier;
import java.nio.charset.StandardCharsets;
import java.nio.file.Files;
import java.nio.file.Path;
import java.util.ArrayList;
import java.util.Arrays;
import java.util.List;
import java.util.Set;
import java.util.TreeSet;
import java.util.regex.Matcher;
import java.util.regex.Pattern;

/**
 * README.md, which lies in the directory that the test is run from: what its examples say is what the class
 * answers, and it tells of each call of the public face, and of what that throws, and of no other.
 */
public final class ReadmeTest {
    private static final String NEW_OBJECT = "RatePlans plans = new RatePlans();";
    private static final Pattern CALL = Pattern.compile("plans\\.(\\w+)\\(([-\\d, ]*)\\); +// (throws )?([\\w-]+)(:? .*)?");
    private static final Pattern BLOCK = Pattern.compile("```java\n(.*?)```\n", Pattern.DOTALL);
    private static final Pattern SECTION = Pattern.compile("### `(.*?)`\n(.*?)(?=\n##)", Pattern.DOTALL);
    private static final Pattern TEST = Pattern.compile("`(\\w+Test)`");
    private static final Pattern THROWN = Pattern.compile("\\w+Exception");

    /** All that the examples show, such as 'count' and 'count throws ArithmeticException'. */
    private static final Set<String> shown = new TreeSet<>();

    public static void main(String[] args) throws IOException {
        String readme = Files.readString(Path.of("README.md"), StandardCharsets.UTF_8);
        examplesAreWhatTheClassAnswers(readme);
        examplesShowAllOfTheFace();
        sectionsAreTheFace(readme);
        howToRunTheTestsIsTold(readme);
        Runs.end();
    }

    private static void examplesAreWhatTheClassAnswers(String readme) {
        List<String> blocks = new ArrayList<>();
        Matcher found = BLOCK.matcher(readme);
        while (found.find()) {
            blocks.add(found.group(1));
        }
        Runs.check("README.md", "its examples", String.valueOf(blocks.size()), "2");
        for (String block : blocks) {
            String[] lines = block.split("\n");
            Runs.check("README.md", "the first line of an example", lines[0], NEW_OBJECT);
            Player player = new Player();
            for (String line : Arrays.asList(lines).subList(1, lines.length)) {
                play(player, line);
            }
        }
        // The first one can be copied into a program as it stands.
        Runs.check("README.md", "the first example throws", String.valueOf(blocks.get(0).contains("throws")), "false");
    }

    private static void play(Player player, String line) {
        Matcher call = CALL.matcher(line);
        if (!call.matches()) {
            Runs.check("README.md", line, "a line that is no call with its answer", "a call");
            return;
        }
        String name = call.group(1);
        String numbers = call.group(2).replace(",", " ");
        String due = call.group(4);
        shown.add(call.group(3) == null ? name : name + " throws " + due);
        String got = player.ask(name + " " + numbers);
        Runs.check("README.md", line, thrownOrNot(got), (call.group(3) == null ? "" : "throws ") + due);
    }

    private static String thrownOrNot(String answer) {
        return THROWN.matcher(answer).find() ? "throws " + answer : answer;
    }

    private static void examplesShowAllOfTheFace() {
        for (Method m : publicMethods()) {
            check("an example shows " + m.getName(), shown.contains(m.getName()));
            for (String thrown : thrownBy(m)) {
                String both = m.getName() + " throws " + thrown;
                check("an example shows that " + both, shown.contains(both));
            }
        }
    }

    private static void sectionsAreTheFace(String readme) {
        Set<String> told = new TreeSet<>();
        Matcher section = SECTION.matcher(readme);
        while (section.find()) {
            told.add(withoutNames(section.group(1)) + tellsThrown(section.group(2)));
            checkItems(section.group(1), section.group(2));
        }
        Set<String> face = new TreeSet<>();
        face.add("RatePlans.NONE[]");
        for (Constructor<?> c : RatePlans.class.getConstructors()) {
            face.add("RatePlans" + parametersOf(c) + thrownBy(c));
        }
        for (Method m : publicMethods()) {
            face.add(m.getReturnType() + " " + m.getName() + parametersOf(m) + thrownBy(m));
        }
        Runs.check("README.md", "the calls and what they throw", told.toString(), face.toString());
    }

    /** The parameters' names are not in the compiled class: what is left to compare are their types. */
    private static String withoutNames(String head) {
        int open = head.indexOf('(');
        return open < 0 ? head : head.substring(0, open) + head.substring(open).replaceAll("int \\w+", "int");
    }

    private static void checkItems(String head, String text) {
        if (head.equals("RatePlans.NONE")) {
            check("NONE is told as it is", text.contains(String.valueOf(RatePlans.NONE)));
            return;
        }
        for (String item : new String[] {"- Answers: ", "- Throws: ", "- Refused: "}) {
            check(head + " has " + item, text.contains("\n" + item));
        }
    }

    private static Set<String> tellsThrown(String section) {
        Set<String> thrown = new TreeSet<>();
        Matcher name = THROWN.matcher(section);
        while (name.find()) {
            thrown.add(name.group());
        }
        return thrown;
    }

    private static List<Method> publicMethods() {
        List<Method> methods = new ArrayList<>();
        for (Method m : RatePlans.class.getDeclaredMethods()) {
            if (Modifier.isPublic(m.getModifiers())) {
                methods.add(m);
            }
        }
        return methods;
    }

    private static String parametersOf(Executable call) {
        return "(" + String.join(", ", Arrays.stream(call.getParameterTypes()).map(Class::getName).toList()) + ")";
    }

    private static Set<String> thrownBy(Executable call) {
        Set<String> thrown = new TreeSet<>();
        for (Class<?> type : call.getExceptionTypes()) {
            thrown.add(type.getSimpleName());
        }
        return thrown;
    }

    private static void howToRunTheTestsIsTold(String readme) {
        check("it says how to run the tests", readme.contains("\n    .ci/run\n"));
        Set<String> told = new TreeSet<>();
        Matcher name = TEST.matcher(readme);
        while (name.find()) {
            told.add(name.group(1) + ".java");
        }
        Set<String> there = new TreeSet<>(Arrays.asList(Path.of("src/test/java").toFile().list()));
        Runs.check("README.md", "the tests that it tells of", told.toString(), there.toString());
    }

    private static void check(String what, boolean holds) {
        Runs.check("README.md", what, String.valueOf(holds), "true");
    }
}
