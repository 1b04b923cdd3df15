import java.io.IOException;
import java.net.URL;
import java.net.URLClassLoader;
import java.nio.file.Files;
import java.nio.file.Path;
import java.util.ArrayList;
import java.util.Comparator;
import java.util.List;
import java.util.regex.Matcher;
import java.util.regex.Pattern;
import java.util.stream.Stream;
import javax.tools.ToolProvider;

/** The Java of README.md compiles, and each call that has a number behind it answers that number. */
public final class ReadmeTest {
    private static final Pattern ANSWER = Pattern.compile("(.+);\\s*// (-?\\d+)\\b.*");

    private ReadmeTest() { }

    public static void main(String[] args) throws IOException, ReflectiveOperationException {
        String page = Files.readString(Path.of(System.getProperty("readme", "README.md")));
        StringBuilder methods = new StringBuilder();
        StringBuilder calls = new StringBuilder();
        List<String> lines = new ArrayList<>();
        List<Integer> wanted = new ArrayList<>();
        Matcher block = Pattern.compile("(?s)```java\\n(.*?)```").matcher(page);
        while (block.find()) {
            if (block.group(1).startsWith("static ")) {
                methods.append(block.group(1));
                continue;
            }
            for (String line : block.group(1).split("\n")) {
                Matcher answer = ANSWER.matcher(line);
                if (answer.matches()) {
                    lines.add(answer.group(1));
                    wanted.add(Integer.valueOf(answer.group(2)));
                    calls.append("answers.add(").append(answer.group(1)).append(");\n");
                } else {
                    calls.append(line).append('\n');
                }
            }
        }
        int[] got = answersOf("public final class Page {\n" + methods
                + "public static int[] answers() {\njava.util.List<Integer> answers = new java.util.ArrayList<>();\n" + calls
                + "return answers.stream().mapToInt(each -> each).toArray();\n}\n}\n");
        Checks.due("calls were found", true, lines.size() > 15);
        Checks.due("answers", lines.size(), got.length);
        for (int i = 0; i < got.length; i++) {
            Checks.due(lines.get(i), wanted.get(i), got[i]);
        }
        for (String test : List.of("Promise", "Boundary", "Model", "Order", "Form", "Source", "Readme")) {
            Checks.due("the page names " + test + "Test", true, page.contains(test + "Test.java"));
        }
        Checks.close("ReadmeTest");
    }

    /** Compiles the page's class and asks it; no answers if it does not compile. */
    private static int[] answersOf(String source) throws IOException, ReflectiveOperationException {
        Path folder = Files.createTempDirectory("readme");
        try {
            Path file = Files.writeString(folder.resolve("Page.java"), source);
            int failed = ToolProvider.getSystemJavaCompiler().run(null, null, null, "-proc:none", "-cp",
                    System.getProperty("java.class.path"), "-d", folder.toString(), file.toString());
            Checks.due("compiling the page", 0, failed);
            if (failed != 0) {
                return new int[0];
            }
            try (URLClassLoader loader = new URLClassLoader(new URL[] {folder.toUri().toURL()})) {
                return (int[]) loader.loadClass("Page").getMethod("answers").invoke(null);
            }
        } finally {
            delete(folder);
        }
    }

    private static void delete(Path folder) throws IOException {
        try (Stream<Path> all = Files.walk(folder)) {
            for (Path each : all.sorted(Comparator.reverseOrder()).toList()) {
                Files.delete(each);
            }
        }
    }
}
