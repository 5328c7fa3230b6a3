import java.io.IOException;
import java.net.URL;
import java.net.URLClassLoader;
import java.nio.file.Files;
import java.nio.file.Path;
import java.util.ArrayList;
import java.util.List;
import javax.tools.ToolProvider;

/** Runs the examples of README.md: each call with '// -> x' must answer x, each with '// throws X' must throw X. */
final class ReadmeTest {
    private static final String ANSWERS = "// -> ";
    private static final String THROWS = "// throws ";

    private final StringBuilder program = new StringBuilder();
    private final List<String> calls = new ArrayList<>();
    private final List<String> wanted = new ArrayList<>();

    private ReadmeTest() {
    }

    public static void main(String[] args) throws Exception {
        ReadmeTest test = new ReadmeTest();
        test.read(Files.readAllLines(Path.of("README.md")));
        List<String> got = test.answers();
        Check.due("README: how many answers", test.wanted.size(), got.size());
        for (int i = 0; i < got.size(); i++) {
            Check.due("README: " + test.calls.get(i), test.wanted.get(i), got.get(i));
        }
        test.everyMethodIsShown();
        Check.end();
    }

    private void read(List<String> lines) {
        program.append("public final class Examples {\n");
        program.append("public static void tell(java.util.List<String> answers) {\n");
        boolean inside = false;
        for (String line : lines) {
            if (line.startsWith("```")) {
                inside = line.equals("```java");
                program.append(inside ? "{\n" : "}\n");
            } else if (inside) {
                readLine(line);
            }
        }
        program.append("}\n}\n");
    }

    private void readLine(String line) {
        String call = line.contains("//") ? line.substring(0, line.indexOf("//")).trim() : line.trim();
        if (line.contains(ANSWERS)) {
            expect(call, word(line, ANSWERS));
            program.append(telling(call)).append('\n');
        } else if (line.contains(THROWS)) {
            expect(call, "throws." + word(line, THROWS));
            program.append("try { ").append(call).append(" answers.add(\"nothing thrown\"); }\n");
            program.append("catch (RuntimeException e) { answers.add(\"throws.\" + e.getClass().getSimpleName()); }\n");
        } else {
            program.append(call).append('\n');
        }
    }

    private void expect(String call, String answer) {
        calls.add(call);
        wanted.add(answer);
    }

    private static String word(String line, String behind) {
        return line.substring(line.indexOf(behind) + behind.length()).split("[: ]")[0];
    }

    private static String telling(String call) {
        if (call.startsWith("int ")) {
            String name = call.substring(4, call.indexOf(" ="));
            return call + " answers.add(String.valueOf(" + name + "));";
        }
        return "answers.add(String.valueOf(" + call.substring(0, call.length() - 1) + "));";
    }

    private List<String> answers() throws Exception {
        Path directory = Files.createTempDirectory("readme");
        Path source = directory.resolve("Examples.java");
        Path built = directory.resolve("Examples.class");
        List<String> got = new ArrayList<>();
        try {
            Files.writeString(source, program);
            compile(source, directory);
            URL[] places = {directory.toUri().toURL()};
            try (URLClassLoader loader = new URLClassLoader(places, ReadmeTest.class.getClassLoader())) {
                loader.loadClass("Examples").getMethod("tell", List.class).invoke(null, got);
            }
        } finally {
            Files.deleteIfExists(built);
            Files.deleteIfExists(source);
            Files.deleteIfExists(directory);
        }
        return got;
    }

    private static void compile(Path source, Path directory) throws IOException {
        String path = System.getProperty("java.class.path");
        int code = ToolProvider.getSystemJavaCompiler()
                .run(null, null, null, "-cp", path, "-d", directory.toString(), source.toString());
        if (code != 0) {
            throw new IOException("the examples of README.md do not compile");
        }
    }

    private void everyMethodIsShown() {
        for (java.lang.reflect.Method method : RankHouse.class.getDeclaredMethods()) {
            if (java.lang.reflect.Modifier.isPublic(method.getModifiers())) {
                String call = "house." + method.getName() + "(";
                Check.due("README: shows " + method.getName(), true, program.indexOf(call) >= 0);
            }
        }
    }
}
