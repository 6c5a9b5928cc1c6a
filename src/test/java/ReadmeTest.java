import java.io.IOException;
import java.lang.invoke.MethodHandles;
import java.lang.reflect.Method;
import java.lang.reflect.Modifier;
import java.nio.file.Files;
import java.nio.file.Path;
import java.util.List;
import java.util.regex.Matcher;
import java.util.regex.Pattern;
import java.util.stream.Collectors;
import java.util.stream.Stream;
import javax.tools.ToolProvider;

/** README.md's example answers as its comments say, and the page names every call and every test. */
public final class ReadmeTest {
    private static final Path PAGE = Path.of("README.md");
    private static final Path TESTS = Path.of("src/test/java");
    private static final Pattern BLOCK = Pattern.compile("```java\n(.*?)```", Pattern.DOTALL);
    private static final Pattern ASKED = Pattern.compile("(?m)^(?:int (\\w+) = )?(x\\..*);\\s*// (-?\\d+): .*$");

    public static void main(String[] args) throws IOException, ReflectiveOperationException {
        String page = Files.readString(PAGE);
        example(page);
        for (Method method : WhoSitsBy.class.getDeclaredMethods()) {
            if (Modifier.isPublic(method.getModifiers())) {
                names(page, method.getName());
            }
        }
        for (String test : tests()) {
            names(page, test);
        }
        Due.due("names .ci/run", page.contains(".ci/run") ? 1 : 0, 1);
        Due.end("ReadmeTest");
    }

    private static void names(String page, String name) {
        Due.due("names " + name, page.contains("`" + name + "`") ? 1 : 0, 1);
    }

    private static List<String> tests() throws IOException {
        try (Stream<Path> files = Files.list(TESTS)) {
            return files.map(file -> file.getFileName().toString()).filter(name -> name.endsWith("Test.java"))
                .map(name -> name.substring(0, name.length() - ".java".length())).collect(Collectors.toList());
        }
    }

    // each line with an answer behind it becomes one that looks at the answer
    private static void example(String page) throws IOException, ReflectiveOperationException {
        Matcher block = BLOCK.matcher(page);
        Due.due("has an example", block.find() ? 1 : 0, 1);
        Matcher asked = ASKED.matcher(block.group(1));
        StringBuilder body = new StringBuilder();
        int many = 0;
        while (asked.find()) {
            String name = asked.group(1) == null ? "answer" + many : asked.group(1);
            String told = "README.md, " + asked.group(2);
            asked.appendReplacement(body, Matcher.quoteReplacement("int " + name + " = " + asked.group(2)
                + "; Due.due(\"" + told + "\", " + name + ", " + asked.group(3) + ");"));
            many++;
        }
        asked.appendTail(body);
        Due.due("the example has answers", many > 9 ? 1 : 0, 1);
        run("final class Example { static void run() {\n" + body + "} }\n");
    }

    private static void run(String source) throws IOException, ReflectiveOperationException {
        Path made = Files.createTempDirectory("readme");
        Path file = Files.writeString(made.resolve("Example.java"), source);
        int compiled = ToolProvider.getSystemJavaCompiler().run(null, null, null, "-d", made.toString(), "-cp",
            System.getProperty("java.class.path"), file.toString());
        Due.due("the example compiles, if 0", compiled, 0);
        if (compiled == 0) {
            byte[] example = Files.readAllBytes(made.resolve("Example.class"));
            MethodHandles.lookup().defineClass(example).getDeclaredMethod("run").invoke(null);
        }
        try (Stream<Path> files = Files.list(made)) {
            for (Path each : files.collect(Collectors.toList())) {
                Files.delete(each);
            }
        }
        Files.delete(made);
    }
}
