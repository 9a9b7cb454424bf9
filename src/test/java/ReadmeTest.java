import java.io.IOException;
import java.lang.reflect.Method;
import java.lang.reflect.Modifier;
import java.net.URL;
import java.net.URLClassLoader;
import java.nio.file.Files;
import java.nio.file.Path;
import java.util.ArrayList;
import java.util.Comparator;
import java.util.List;
import java.util.Set;
import java.util.TreeSet;
import java.util.function.BiConsumer;
import java.util.regex.Matcher;
import java.util.regex.Pattern;
import java.util.stream.Stream;
import javax.tools.ToolProvider;

/** README.md tells every call and every test; what it shows compiles, and answers as it says. */
public final class ReadmeTest {
    private static final Pattern BLOCK = Pattern.compile("```java\n(.*?)```", Pattern.DOTALL);
    private static final Pattern CALL = Pattern.compile("(x\\.\\w+\\(.*?\\)); +// (-?\\d+|[A-Z]+): \\S.*");
    private static final Due due = new Due("ReadmeTest");

    public static void main(String[] args) throws Exception {
        String page = Files.readString(Path.of("README.md"));
        everyCall(page);
        everyTest(page);
        answers(page);
        due.end();
    }

    private static void everyCall(String page) {
        int from = page.indexOf("| sort | calls |");
        due.holds("the table of calls", from >= 0);
        String table = page.substring(Math.max(from, 0)).split("\n\n")[0];
        Set<String> told = new TreeSet<>();
        Matcher calls = Pattern.compile("`(\\w+)\\((.*?)\\)`").matcher(table);
        while (calls.find()) {
            told.add(calls.group(1) + " " + (calls.group(2).isEmpty() ? 0 : calls.group(2).split(", ").length));
        }
        Set<String> want = new TreeSet<>();
        for (Method method : ChunkLayers.class.getDeclaredMethods()) {
            if (Modifier.isPublic(method.getModifiers())) {
                want.add(method.getName() + " " + method.getParameterCount());
            }
        }
        due.holds("every call is told, with its numbers: " + told, told.equals(want));
    }

    private static void everyTest(String page) throws IOException {
        Set<String> told = new TreeSet<>();
        Matcher rows = Pattern.compile("\n\\| `(\\w+Test)` \\| ").matcher(page);
        while (rows.find()) {
            told.add(rows.group(1));
        }
        Set<String> want = new TreeSet<>();
        try (Stream<Path> files = Files.list(Path.of("src/test/java"))) {
            files.map(file -> file.getFileName().toString()).filter(name -> name.endsWith("Test.java"))
                .forEach(name -> want.add(name.replace(".java", "")));
        }
        due.holds("every test is told: " + told, told.equals(want));
        try (Stream<Path> files = Files.list(Path.of("../shared/tests"))) {
            files.map(file -> file.getFileName().toString())
                .forEach(name -> due.holds("how to run " + name, page.contains("../shared/tests/" + name)));
        }
    }

    /** What the page shows, compiled as it stands: every call but those of a loop says its answer. */
    private static void answers(String page) throws Exception {
        StringBuilder source = new StringBuilder("public final class Shown {\n");
        Matcher blocks = BLOCK.matcher(page);
        int many = 0;
        while (blocks.find()) {
            source.append("    public static void block").append(many)
                .append("(java.util.function.BiConsumer<String, long[]> answered) {\n");
            for (String line : blocks.group(1).split("\n")) {
                source.append("        ").append(withItsAnswer(line)).append('\n');
            }
            source.append("    }\n");
            many++;
        }
        due.holds("there is something shown", many > 0);
        Path folder = Files.createTempDirectory("shown");
        try {
            compileAndAsk(folder, source.append("}\n").toString(), many);
        } finally {
            remove(folder);
        }
    }

    private static String withItsAnswer(String line) {
        Matcher call = CALL.matcher(line);
        if (!call.matches()) {
            due.holds("says its answer: " + line, !line.startsWith("x."));
            return line;
        }
        String want = call.group(2).matches("[A-Z]+") ? "ChunkLayers." + call.group(2) : call.group(2) + "L";
        return "answered.accept(\"" + call.group(1) + "\", new long[] {" + call.group(1) + ", " + want + "});";
    }

    private static void compileAndAsk(Path folder, String source, int blocks) throws Exception {
        Path file = folder.resolve("Shown.java");
        Files.writeString(file, source);
        int failed = ToolProvider.getSystemJavaCompiler().run(null, null, null, "-d", folder.toString(),
            "-cp", System.getProperty("java.class.path"), file.toString());
        due.is("compiling what is shown", failed, 0);
        if (failed != 0) {
            return;
        }
        BiConsumer<String, long[]> answered = (call, pair) -> due.is(call, pair[0], pair[1]);
        try (URLClassLoader loader = new URLClassLoader(new URL[] {folder.toUri().toURL()})) {
            for (int k = 0; k < blocks; k++) {
                loader.loadClass("Shown").getMethod("block" + k, BiConsumer.class).invoke(null, answered);
            }
        }
    }

    private static void remove(Path folder) throws IOException {
        List<Path> all = new ArrayList<>();
        try (Stream<Path> files = Files.walk(folder)) {
            files.sorted(Comparator.reverseOrder()).forEach(all::add);
        }
        for (Path path : all) {
            Files.delete(path);
        }
    }
}
