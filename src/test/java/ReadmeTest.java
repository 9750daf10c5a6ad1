import java.io.IOException;
import java.lang.reflect.Method;
import java.lang.reflect.Modifier;
import java.net.URL;
import java.net.URLClassLoader;
import java.nio.file.Files;
import java.nio.file.Path;
import java.nio.file.Paths;
import java.util.ArrayList;
import java.util.List;
import java.util.Set;
import java.util.TreeSet;
import java.util.function.Supplier;
import java.util.regex.Matcher;
import java.util.regex.Pattern;
import java.util.stream.Stream;
import javax.tools.ToolProvider;

/** README.md says what holds: its example compiles and answers as it tells, and it names every call and every test. */
public final class ReadmeTest {
    private static final Path README = Paths.get("README.md");
    private static final Path TESTS = Paths.get("src", "test", "java");
    /** A line of the example that tells its answer: 'int copy = c.copy(..);  // 1: why'. */
    private static final Pattern CALL = Pattern.compile("(?:int (\\w+) = )?(c\\.\\w+\\(.*\\));\\s+// (\\w+|-\\d+): .*");

    public static void main(String[] args) throws Exception {
        String text = Files.readString(README);
        List<String> example = example(text);
        exampleAnswersAsTold(example);
        namesEveryCall(text, String.join("\n", example));
        namesEveryTest(text);
        Check.finish();
    }

    private static List<String> example(String text) {
        Matcher block = Pattern.compile("```java\n(.*?)```", Pattern.DOTALL).matcher(text);
        List<String> lines = new ArrayList<>();
        Check.isTrue("README.md has no example", block.find());
        for (String line : block.group(1).split("\n")) {
            if (!line.isBlank()) {
                lines.add(line);
            }
        }
        return lines;
    }

    private static void exampleAnswersAsTold(List<String> lines) throws Exception {
        List<String> told = new ArrayList<>();
        StringBuilder body = new StringBuilder(lines.get(0)).append('\n');
        for (String line : lines.subList(1, lines.size())) {
            Matcher call = CALL.matcher(line);
            Check.isTrue("tells no answer: " + line, call.matches());
            if (call.matches()) {
                told.add(call.group(3).equals("NONE") ? "-1" : call.group(3));
                boolean isNamed = call.group(1) != null;
                body.append(isNamed ? "int " + call.group(1) + " = " + call.group(2) + ";\n" : "");
                body.append("answers.add(String.valueOf(").append(isNamed ? call.group(1) : call.group(2)).append("));\n");
            }
        }
        List<String> got = answers(body.toString());
        for (int i = 0; i < told.size() && i < got.size(); i++) {
            Check.isTrue("answered " + got.get(i) + ": " + lines.get(i + 1), got.get(i).equals(told.get(i)));
        }
        Check.is(told.size(), got.size());
    }

    /** Compiles and runs the example with each call's answer written down. */
    private static List<String> answers(String body) throws Exception {
        Path folder = Files.createTempDirectory("readme");
        Path source = folder.resolve("Example.java");
        Files.writeString(source, "import java.util.*;\n"
                + "public final class Example implements java.util.function.Supplier<List<String>> {\n"
                + "public List<String> get() {\nList<String> answers = new ArrayList<>();\n" + body + "return answers;\n}\n}\n");
        String classPath = System.getProperty("java.class.path");
        int failed = ToolProvider.getSystemJavaCompiler().run(null, null, null,
                "-cp", classPath, "-d", folder.toString(), source.toString());
        Check.is(0, failed);
        List<String> answers = failed == 0 ? run(folder) : List.of();
        for (String name : new String[] {"Example.class", "Example.java", ""}) {
            Files.deleteIfExists(folder.resolve(name));
        }
        return answers;
    }

    private static List<String> run(Path folder) throws Exception {
        try (URLClassLoader loader = new URLClassLoader(new URL[] {folder.toUri().toURL()})) {
            Object example = loader.loadClass("Example").getDeclaredConstructor().newInstance();
            List<String> answers = new ArrayList<>();
            for (Object answer : (List<?>) ((Supplier<?>) example).get()) {
                answers.add((String) answer);
            }
            return answers;
        }
    }

    private static void namesEveryCall(String text, String example) {
        for (Method m : ChannelRooms.class.getDeclaredMethods()) {
            if (Modifier.isPublic(m.getModifiers())) {
                Check.isTrue("the example does not use " + m.getName(), example.contains("c." + m.getName() + "("));
                Check.isTrue("the list of calls lacks " + m.getName(), text.contains("\n| `" + m.getName() + "("));
            }
        }
    }

    private static void namesEveryTest(String text) throws IOException {
        Set<String> there = new TreeSet<>();
        try (Stream<Path> files = Files.list(TESTS)) {
            files.map(file -> file.getFileName().toString().replace(".java", "")).forEach(there::add);
        }
        Set<String> named = new TreeSet<>();
        Matcher name = Pattern.compile("`(\\w+Test|Check|Sentences|Scene|PlainRooms)`").matcher(text);
        while (name.find()) {
            named.add(name.group(1));
        }
        Check.isTrue("README.md names " + named + ", and there are " + there, named.equals(there));
    }
}
