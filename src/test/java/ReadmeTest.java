import java.io.IOException;
import java.lang.reflect.Modifier;
import java.net.URL;
import java.net.URLClassLoader;
import java.nio.file.Files;
import java.nio.file.Path;
import java.util.ArrayList;
import java.util.List;
import java.util.regex.Matcher;
import java.util.regex.Pattern;
import java.util.stream.Stream;
import javax.tools.ToolProvider;

/** README.md tells how to use the class: its example is compiled and run, and no call is left out. */
final class ReadmeTest {
    /** A call and what it answers, or the exception that it throws. */
    private static final Pattern TOLD = Pattern.compile("(market\\..*); +// (?:= ([-\\w.]+).*|throws (\\w+))");

    private static final Checks IS = new Checks();

    /** What the class that is made of the example does: it tells what each call answered. */
    public interface Example {
        List<String> answers();
    }

    public static void main(String[] args) throws Exception {
        List<String> lines = Files.readAllLines(Path.of("README.md"));
        example(lines);
        calls(String.join("\n", lines));
        IS.end("ReadmeTest");
    }

    private static void example(List<String> lines) throws Exception {
        int from = lines.indexOf("```java") + 1;
        int end = from + lines.subList(from, lines.size()).indexOf("```");
        List<String> told = new ArrayList<>();
        List<String> due = new ArrayList<>();
        List<String> source = new ArrayList<>();
        source.add("public final class ReadmeExample implements ReadmeTest.Example {");
        source.add("public java.util.List<String> answers() { java.util.List<String> all = new java.util.ArrayList<>();");
        for (String line : lines.subList(from, end)) {
            Matcher call = TOLD.matcher(line);
            if (call.matches()) {
                told.add("README.md, " + line);
                due.add(call.group(2) != null ? call.group(2) : call.group(3));
                source.add("try { all.add(String.valueOf(" + call.group(1) + ")); }");
                source.add("catch (RuntimeException e) { all.add(e.getClass().getSimpleName()); }");
            } else {
                IS.at("README.md, a call without an answer: " + line);
                IS.due(false, line.startsWith("market."));
                source.add(line);
            }
        }
        source.add("return all; } }");
        IS.at("README.md, the example has enough calls");
        IS.due(true, told.size() > 20);
        List<String> answers = run(source);
        for (int i = 0; i < told.size(); i++) {
            IS.at(told.get(i));
            IS.due(due.get(i), answers.get(i));
        }
    }

    private static List<String> run(List<String> source) throws Exception {
        Path made = Files.createTempDirectory("readme");
        Path file = made.resolve("ReadmeExample.java");
        Files.write(file, source);
        String classes = System.getProperty("java.class.path");
        ToolProvider.getSystemJavaCompiler().run(null, null, null, "-cp", classes, "-d", made.toString(), file.toString());
        try (URLClassLoader loader = new URLClassLoader(new URL[] {made.toUri().toURL()}, ReadmeTest.class.getClassLoader())) {
            return ((Example) loader.loadClass("ReadmeExample").getConstructor().newInstance()).answers();
        } finally {
            delete(made);
        }
    }

    private static void delete(Path made) throws IOException {
        try (Stream<Path> files = Files.list(made)) {
            for (Path file : files.toList()) {
                Files.delete(file);
            }
        }
        Files.delete(made);
    }

    private static void calls(String text) {
        IS.at("README.md, the calls");
        Stream.of(Layertreaty.class.getDeclaredMethods()).filter(m -> Modifier.isPublic(m.getModifiers()))
                .forEach(m -> IS.due("", text.contains("`" + m.getName() + "(") ? "" : m.getName() + " is not named"));
    }
}
