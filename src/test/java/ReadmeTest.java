import java.io.IOException;
import java.io.UncheckedIOException;
import java.lang.reflect.Method;
import java.lang.reflect.Modifier;
import java.net.URL;
import java.net.URLClassLoader;
import java.nio.file.Files;
import java.nio.file.Path;
import java.util.ArrayList;
import java.util.Comparator;
import java.util.List;
import java.util.regex.Matcher;
import java.util.regex.Pattern;
import java.util.stream.Stream;
import javax.tools.ToolProvider;

/** The calls that README.md shows compile as they stand there, and answer as it says behind them. */
final class ReadmeTest {
    private static final Checks CHECKS = new Checks();
    private static final Pattern BLOCK = Pattern.compile("^```java\\n(.*?)^```$",
        Pattern.MULTILINE | Pattern.DOTALL);
    private static final Pattern MAKING = Pattern.compile("MaskEdges \\w+ = new MaskEdges\\(\\);");
    private static final Pattern CALL = Pattern.compile(
        "(?:(?:int|boolean) (?<name>\\w+) = )?(?<call>\\w+\\.(?<method>\\w+)\\(.*\\));"
            + " +// (?<answer>-?\\d+|true|false)(?:: .+)?");

    public static void main(String[] args) throws IOException, ReflectiveOperationException {
        CHECKS.sentence("README.md");
        List<String> lines = linesOf(Files.readString(Path.of("README.md")));
        List<Matcher> calls = callsOf(lines);
        everyMethodIsShown(calls);
        Path room = Files.createTempDirectory("readme");
        try {
            compileAsItStands(room, lines);
            answersAreAsTold(room, lines, calls);
        } finally {
            remove(room);
        }
        CHECKS.finish();
    }

    private static List<String> linesOf(String readme) {
        List<String> lines = new ArrayList<>();
        Matcher block = BLOCK.matcher(readme);
        while (block.find()) {
            lines.addAll(block.group(1).lines().toList());
        }
        return lines;
    }

    /** A line that is neither a call with its answer nor a new object would go untested. */
    private static List<Matcher> callsOf(List<String> lines) {
        List<Matcher> calls = new ArrayList<>();
        for (String line : lines) {
            Matcher call = CALL.matcher(line);
            boolean told = call.matches();
            CHECKS.due("the answer is told in: " + line, told || MAKING.matcher(line).matches(), true);
            if (told) {
                calls.add(call);
            }
        }
        return calls;
    }

    private static void everyMethodIsShown(List<Matcher> calls) {
        for (Method method : MaskEdges.class.getDeclaredMethods()) {
            boolean shown = calls.stream().anyMatch(call -> call.group("method").equals(method.getName()));
            CHECKS.due(method.getName() + " is shown", shown, Modifier.isPublic(method.getModifiers()));
        }
    }

    private static void compileAsItStands(Path room, List<String> lines) throws IOException {
        StringBuilder source = new StringBuilder("class AsItStands {\n  void calls() {\n");
        lines.forEach(line -> source.append(line).append('\n'));
        compile(room, "AsItStands", source.append("  }\n}\n").toString());
    }

    private static void answersAreAsTold(Path room, List<String> lines, List<Matcher> calls)
            throws IOException, ReflectiveOperationException {
        StringBuilder source = new StringBuilder("public class Asked {\n"
            + "  public static void ask(java.util.List<Object> answers) {\n");
        for (String line : lines) {
            source.append(asking(line)).append('\n');
        }
        if (!compile(room, "Asked", source.append("  }\n}\n").toString())) {
            return;
        }
        List<Object> answers = new ArrayList<>();
        try (URLClassLoader loader = new URLClassLoader(new URL[] {room.toUri().toURL()})) {
            loader.loadClass("Asked").getMethod("ask", List.class).invoke(null, answers);
        }
        CHECKS.due("calls asked", answers.size(), calls.size());
        for (int i = 0; i < answers.size(); i++) {
            Matcher call = calls.get(i);
            boolean same = call.group("answer").equals(answers.get(i).toString());
            CHECKS.due(call.group() + " [it is " + answers.get(i) + "]", same, true);
        }
    }

    /** The line, and what it answers kept; a call whose answer has no name is made only once too. */
    private static String asking(String line) {
        Matcher call = CALL.matcher(line);
        if (!call.matches()) {
            return line;
        }
        if (call.group("name") == null) {
            return "answers.add(" + call.group("call") + ");";
        }
        return line + "\nanswers.add(" + call.group("name") + ");";
    }

    private static boolean compile(Path room, String name, String source) throws IOException {
        Path file = Files.writeString(room.resolve(name + ".java"), source);
        int code = ToolProvider.getSystemJavaCompiler().run(null, null, null, "-cp",
            System.getProperty("java.class.path"), "-d", room.toString(), file.toString());
        CHECKS.due(name + ": what javac ends with", code, 0);
        return code == 0;
    }

    private static void remove(Path room) throws IOException {
        try (Stream<Path> files = Files.walk(room)) {
            files.sorted(Comparator.reverseOrder()).forEach(ReadmeTest::removeOne);
        }
    }

    private static void removeOne(Path file) {
        try {
            Files.delete(file);
        } catch (IOException e) {
            throw new UncheckedIOException(e);
        }
    }
}
