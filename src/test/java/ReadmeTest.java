import java.io.IOException;
import java.lang.reflect.Method;
import java.lang.reflect.Modifier;
import java.nio.file.Files;
import java.nio.file.Path;
import java.util.List;
import java.util.regex.Matcher;
import java.util.regex.Pattern;
import java.util.stream.Collectors;
import java.util.stream.Stream;

/** README.md: its examples answer as it says, of the program and of Model; it names each call and each test. */
public final class ReadmeTest {
    private static final Due DUE = new Due("ReadmeTest");
    private static final String MADE = "PaintedOver x = new PaintedOver();";
    private static final String LOOP = "for (int i = 0; i < text.length(); i++) {";
    private static final Pattern TEXT = Pattern.compile("String text = \"([^\"]*)\";");
    private static final Pattern CALL = Pattern.compile("x\\.(\\w+)\\((.*)\\); +// (-?\\d+)\\b.*");
    private static final Pattern LAID = Pattern.compile(" {4}x\\.set\\((\\d+), i, text\\.charAt\\(i\\)\\);");
    private static final int MOST_CALLS = 512;

    private static PaintedOver program = null;
    private static Model model = null;
    private static String text = "";
    private static int calls = 0;
    private static int answers = 0;

    public static void main(String[] args) throws IOException, ReflectiveOperationException {
        List<String> lines = Files.readAllLines(Path.of("README.md"));
        examples(lines);
        String readme = String.join("\n", lines);
        says(readme, "An object is used for at most 512 calls after it has been made; what later calls answer is free.");
        says(readme, ".ci/run");
        namesTheFace(readme);
        namesTheTests(readme);
        DUE.end();
    }

    private static void says(String readme, String sentence) {
        DUE.is("README.md says: " + sentence, readme.contains(sentence) ? 1 : 0, 1);
    }

    private static void examples(List<String> lines) throws ReflectiveOperationException {
        boolean inside = false;
        for (String line : lines) {
            if (line.startsWith("```")) {
                inside = line.equals("```java");
            } else if (inside) {
                example(line);
            }
        }
        DUE.is("README.md has an example of more than 30 answers", answers > 30 ? 1 : 0, 1);
    }

    private static void example(String line) throws ReflectiveOperationException {
        Matcher told = TEXT.matcher(line);
        Matcher call = CALL.matcher(line);
        Matcher laid = LAID.matcher(line);
        if (line.equals(MADE)) {
            program = new PaintedOver();
            model = new Model();
            calls = 0;
        } else if (told.matches()) {
            text = told.group(1);
        } else if (call.matches()) {
            ask(call.group(1), call.group(2), Long.parseLong(call.group(3)));
            answers++;
        } else if (laid.matches()) {
            for (int i = 0; i < text.length(); i++) {
                ask("set", laid.group(1) + ", " + i + ", " + (int) text.charAt(i), 1);
            }
        } else {
            DUE.is("a line of the example that is understood: " + line, line.equals(LOOP) || line.equals("}") ? 1 : 0, 1);
        }
    }

    private static void ask(String name, String list, long due) throws ReflectiveOperationException {
        String[] words = list.isEmpty() ? new String[0] : list.replace("text.length()", "" + text.length()).split(", ");
        long[] v = new long[words.length];
        for (int i = 0; i < v.length; i++) {
            v[i] = Long.parseLong(words[i]);
        }
        calls++;
        DUE.is("the example has no more calls than an object has", calls <= MOST_CALLS ? 1 : 0, 1);
        DUE.is("of the model, " + name + "(" + list + ")", model.call(name, v), due);
        DUE.is(name + "(" + list + ")", answer(name, v), due);
    }

    private static long answer(String name, long[] v) throws ReflectiveOperationException {
        for (Method method : PaintedOver.class.getMethods()) {
            if (method.getName().equals(name) && method.getParameterCount() == v.length) {
                Object[] given = new Object[v.length];
                for (int i = 0; i < v.length; i++) {
                    boolean isLong = method.getParameterTypes()[i] == long.class;
                    given[i] = isLong ? (Object) v[i] : (Object) (int) v[i];
                }
                return ((Number) method.invoke(program, given)).longValue();
            }
        }
        DUE.is("there is a call " + name + " of " + v.length, 0, 1);
        return 0;
    }

    /** Each call has a line of the tables, with as many names as it has parameters. */
    private static void namesTheFace(String readme) {
        int named = 0;
        for (Method method : PaintedOver.class.getDeclaredMethods()) {
            if (Modifier.isPublic(method.getModifiers())) {
                Matcher line = Pattern.compile("\n\\| `" + method.getName() + "\\(([^)]*)\\)` \\| ").matcher(readme);
                boolean found = line.find();
                DUE.is("README.md has a line of " + method.getName(), found ? 1 : 0, 1);
                int names = !found || line.group(1).isEmpty() ? 0 : line.group(1).split(", ").length;
                DUE.is("names in the line of " + method.getName(), names, method.getParameterCount());
                named++;
            }
        }
        DUE.is("calls of the face", named, 41);
    }

    private static void namesTheTests(String readme) throws IOException {
        try (Stream<Path> files = Files.list(Path.of("src/test/java"))) {
            List<String> tests = files.map(file -> file.getFileName().toString()).filter(name -> name.endsWith("Test.java"))
                .map(name -> name.substring(0, name.length() - 5)).collect(Collectors.toList());
            for (String test : tests) {
                says(readme, "\n| `" + test + "` | ");
            }
            long rows = readme.lines().filter(line -> line.matches("\\| `\\w+Test` \\| .*")).count();
            DUE.is("tests in the table", rows, tests.size());
        }
    }
}
