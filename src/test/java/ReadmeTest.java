import java.io.IOException;
import java.lang.reflect.InvocationTargetException;
import java.net.URL;
import java.net.URLClassLoader;
import java.nio.file.DirectoryStream;
import java.nio.file.Files;
import java.nio.file.Path;
import java.util.ArrayList;
import java.util.List;
import java.util.Set;
import java.util.TreeSet;
import java.util.regex.Matcher;
import java.util.regex.Pattern;
import javax.tools.ToolProvider;

/** README.md: its examples are Java and answer as it says, and it names every call and every test. */
public final class ReadmeTest {
    private static final Check C = new Check("ReadmeTest");
    private static final Path README = Path.of("README.md");
    private static final Path TESTS = Path.of("src", "test", "java");
    private static final String BEGIN = "AgentNet net = new AgentNet();";

    /** A call, and behind it its answer, which may be followed by a colon and a text. */
    private static final Pattern LINE = Pattern.compile("net\\.((\\w+)\\(.*\\)); +// ([\\w-]+)(:.*)?");

    public static void main(String[] args) throws IOException, ReflectiveOperationException {
        List<String> lines = Files.readAllLines(README);
        Set<String> called = new TreeSet<>();
        List<List<String>> examples = examples(lines);
        C.same("there are examples", examples.size() >= 5, true);
        for (List<String> example : examples) {
            holds(example, called);
        }
        for (java.lang.reflect.Method call : AgentNet.class.getDeclaredMethods()) {
            if (java.lang.reflect.Modifier.isPublic(call.getModifiers())) {
                C.same("an example calls " + call.getName(), called.contains(call.getName()), true);
            }
        }
        namesEveryTest(String.join("\n", lines));
        C.same("it says how the tests are run", lines.contains("    .ci/run"), true);
        C.same(".ci/run can be run", Files.isExecutable(Path.of(".ci", "run")), true);
        C.finish();
    }

    private static List<List<String>> examples(List<String> lines) {
        List<List<String>> all = new ArrayList<>();
        boolean inside = false;
        for (String line : lines) {
            if (line.equals("```java")) {
                all.add(new ArrayList<>());
                inside = true;
            } else if (line.equals("```")) {
                inside = false;
            } else if (inside && !line.isEmpty()) {
                all.get(all.size() - 1).add(line);
            }
        }
        return all;
    }

    /** Compiles the example as it is written, but that each call's answer is handed to this test. */
    private static void holds(List<String> example, Set<String> called) throws IOException, ReflectiveOperationException {
        C.same("an example begins", example.get(0), BEGIN);
        StringBuilder code = new StringBuilder("public final class Example {\n    public static void run(java.util.List<Object> "
            + "got) {\n        " + BEGIN + "\n");
        List<String> due = new ArrayList<>();
        for (String line : example.subList(1, example.size())) {
            Matcher m = LINE.matcher(line);
            if (!m.matches()) {
                C.report("no call with its answer: " + line);
                continue;
            }
            called.add(m.group(2));
            due.add(m.group(3));
            code.append("        try {\n            got.add(net.").append(m.group(1));
            code.append(");\n        } catch (RuntimeException e) {\n            got.add(e.getClass().getSimpleName());\n        }\n");
        }
        List<Object> got = run(code.append("    }\n}\n").toString());
        for (int i = 0; i < due.size(); i++) {
            C.same(example.get(i + 1), i < got.size() ? got.get(i).toString() : "nothing", due.get(i));
        }
    }

    private static List<Object> run(String code) throws IOException, ReflectiveOperationException {
        List<Object> got = new ArrayList<>();
        Path folder = Files.createTempDirectory("readme");
        Path file = folder.resolve("Example.java");
        Files.writeString(file, code);
        String path = System.getProperty("java.class.path");
        int wrong = ToolProvider.getSystemJavaCompiler().run(null, null, null, "-cp", path, "-d", folder.toString(),
            file.toString());
        if (wrong == 0) {
            try (URLClassLoader loader = new URLClassLoader(new URL[] {folder.toUri().toURL()})) {
                loader.loadClass("Example").getMethod("run", List.class).invoke(null, got);
            } catch (InvocationTargetException e) {
                C.report("an example ended with " + e.getCause());
            }
            Files.delete(folder.resolve("Example.class"));
        }
        Files.delete(file);
        Files.delete(folder);
        return got;
    }

    private static void namesEveryTest(String text) throws IOException {
        Set<String> named = new TreeSet<>();
        Matcher m = Pattern.compile("`(\\w+Test)`").matcher(text);
        while (m.find()) {
            named.add(m.group(1));
        }
        Set<String> there = new TreeSet<>();
        try (DirectoryStream<Path> files = Files.newDirectoryStream(TESTS, "*Test.java")) {
            for (Path file : files) {
                there.add(file.getFileName().toString().replace(".java", ""));
            }
        }
        C.same("the tests it names", named.toString(), there.toString());
    }
}
