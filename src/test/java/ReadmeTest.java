import java.io.IOException;
import java.lang.reflect.Method;
import java.lang.reflect.Modifier;
import java.net.URL;
import java.net.URLClassLoader;
import java.nio.file.Files;
import java.nio.file.Path;
import java.util.ArrayList;
import java.util.List;
import java.util.Set;
import java.util.TreeSet;
import java.util.regex.Matcher;
import java.util.regex.Pattern;
import java.util.stream.Collectors;
import java.util.stream.Stream;
import javax.tools.ToolProvider;

/**
 * What README.md shows is so: its Java blocks are compiled as they stand, but that the answer of each call is kept,
 * and each answer is the one that stands behind the call.
 */
public final class ReadmeTest {
    private static final String PROGRAM = "ReadmeProgram";
    private static final Pattern SHOWN = Pattern.compile("(\\S.*\\));\\s+// (-?\\d+|[A-Z]+)(: .*)?");
    private static final Pattern CALL = Pattern.compile("\\bx\\.(\\w+)\\(");
    private static final Pattern ROW = Pattern.compile("\\| `(\\w+)` \\|.*");

    private final List<String> calls = new ArrayList<>();
    private final List<Integer> due = new ArrayList<>();
    private final StringBuilder helpers = new StringBuilder();
    private final StringBuilder statements = new StringBuilder();

    public static void main(String[] args) throws IOException, ReflectiveOperationException {
        List<String> lines = Files.readAllLines(Path.of(args.length > 0 ? args[0] : "README.md"));
        Due.part("README.md");
        ReadmeTest readme = new ReadmeTest();
        readme.readBlocks(lines);
        readme.showsTheWholeFace();
        readme.answersAreSo();
        namesTheTests(lines);
        Due.close();
    }

    private void readBlocks(List<String> lines) throws ReflectiveOperationException {
        boolean inJava = false;
        boolean inHelper = false;
        for (int i = 0; i < lines.size(); i++) {
            String line = lines.get(i);
            if (line.startsWith("```")) {
                inJava = line.equals("```java");
                inHelper = false;
            } else if (inJava) {
                inHelper |= line.startsWith("static ");
                if (inHelper) {
                    helpers.append(line).append('\n');
                } else {
                    readStatement(i + 1, line);
                }
            }
        }
    }

    private void readStatement(int number, String line) throws ReflectiveOperationException {
        Matcher shown = SHOWN.matcher(line);
        if (shown.matches()) {
            calls.add("line " + number + ", " + shown.group(1));
            due.add(answer(shown.group(2)));
            statements.append("got.add(").append(shown.group(1)).append(");\n");
        } else {
            Due.holds("line " + number + " shows its answer: " + line, line.equals("LeastBars x = new LeastBars();"));
            statements.append(line).append('\n');
        }
    }

    private static int answer(String text) throws ReflectiveOperationException {
        return Character.isUpperCase(text.charAt(0)) ? LeastBars.class.getField(text).getInt(null)
            : Integer.parseInt(text);
    }

    private void showsTheWholeFace() {
        Set<String> names = new TreeSet<>();
        for (String call : calls) {
            Matcher name = CALL.matcher(call);
            while (name.find()) {
                names.add(name.group(1));
            }
        }
        for (Method method : LeastBars.class.getDeclaredMethods()) {
            if (Modifier.isPublic(method.getModifiers())) {
                Due.holds(method.getName() + "() is shown with an answer", names.contains(method.getName()));
            }
        }
        for (int refusal : new int[] {LeastBars.UNKNOWN, LeastBars.OUTSIDE, LeastBars.STATE, LeastBars.FULL}) {
            Due.holds("a call that is refused with " + refusal, due.contains(refusal));
        }
    }

    private void answersAreSo() throws IOException, ReflectiveOperationException {
        Path folder = Files.createTempDirectory("readme");
        try {
            List<?> got = run(folder);
            Due.is("how many answers", got.size(), due.size());
            for (int i = 0; i < Math.min(got.size(), due.size()); i++) {
                Due.is(calls.get(i), (Integer) got.get(i), due.get(i));
            }
        } finally {
            wipeOut(folder);
        }
    }

    private List<?> run(Path folder) throws IOException, ReflectiveOperationException {
        Path file = folder.resolve(PROGRAM + ".java");
        Files.writeString(file, "public final class " + PROGRAM + " {\n" + helpers
            + "public static java.util.List<Integer> answers() {\n"
            + "java.util.List<Integer> got = new java.util.ArrayList<>();\n" + statements + "return got;\n}\n}\n");
        int fault = ToolProvider.getSystemJavaCompiler().run(null, null, null, "-d", folder.toString(),
            "-proc:none", "-cp", System.getProperty("java.class.path"), file.toString());
        Due.is("the compiler, over the Java that is shown,", fault, 0);
        if (fault != 0) {
            return List.of();
        }
        try (URLClassLoader loader = new URLClassLoader(new URL[] {folder.toUri().toURL()})) {
            return (List<?>) loader.loadClass(PROGRAM).getMethod("answers").invoke(null);
        }
    }

    private static void wipeOut(Path folder) throws IOException {
        List<Path> files;
        try (Stream<Path> found = Files.list(folder)) {
            files = found.collect(Collectors.toList());
        }
        for (Path file : files) {
            Files.delete(file);
        }
        Files.delete(folder);
    }

    private static void namesTheTests(List<String> lines) throws IOException {
        Set<String> named = new TreeSet<>();
        for (String line : lines) {
            Matcher row = ROW.matcher(line);
            if (row.matches()) {
                named.add(row.group(1));
            }
        }
        Set<String> there;
        try (Stream<Path> files = Files.list(Path.of("src/test/java"))) {
            there = files.map(file -> file.getFileName().toString()).filter(name -> name.endsWith("Test.java"))
                .map(name -> name.substring(0, name.length() - ".java".length()))
                .collect(Collectors.toCollection(TreeSet::new));
        }
        Due.holds("its table has just the tests that there are: " + named + ", there are " + there, named.equals(there));
        Due.holds("tells how to run them", lines.contains("bash .ci/run"));
    }
}
