import java.io.IOException;
import java.lang.reflect.Method;
import java.lang.reflect.Modifier;
import java.net.URL;
import java.net.URLClassLoader;
import java.nio.file.Files;
import java.nio.file.Path;
import java.util.ArrayList;
import java.util.Iterator;
import java.util.List;
import java.util.regex.Matcher;
import java.util.regex.Pattern;
import java.util.stream.Stream;
import javax.tools.ToolProvider;

/** What README.md shows is what the class does: its examples are compiled and run as they stand there. */
public final class ReadmeTest {
    private static final Path README = Path.of("README.md");
    private static final Path TESTS = Path.of("src/test/java");

    private static final Pattern BLOCK = Pattern.compile("(?ms)^```java\n(.*?)^```$");
    /** A call, perhaps kept in a variable, and behind it the answer that is due. */
    private static final Pattern ANSWERED =
            Pattern.compile("(?:int (?<variable>\\w+) = )?(?<call>rows\\.[^;]*); *// (?<answer>-?\\d+|true|false): .*");

    public static void main(String[] args) throws Exception {
        String readme = Files.readString(README);
        List<String> examples = blocksOf(readme);
        everyCallIsShown(String.join("", examples));
        everyTestIsNamed(readme);
        Path folder = Files.createTempDirectory("readme");
        try {
            for (int i = 0; i < examples.size(); i++) {
                answersAreAsShown(folder, "Example" + i, examples.get(i));
            }
        } finally {
            removeAll(folder);
        }
        Check.end();
    }

    private static List<String> blocksOf(String readme) {
        List<String> blocks = new ArrayList<>();
        Matcher block = BLOCK.matcher(readme);
        while (block.find()) {
            blocks.add(block.group(1));
        }
        return blocks;
    }

    private static void everyCallIsShown(String examples) {
        Check.holds("README: new WorkerRows is shown", examples.contains("new WorkerRows("));
        for (Method method : WorkerRows.class.getDeclaredMethods()) {
            if (Modifier.isPublic(method.getModifiers())) {
                String call = "rows." + method.getName() + "(";
                Check.holds("README: " + call + "..) is shown", examples.contains(call));
            }
        }
    }

    private static void everyTestIsNamed(String readme) throws IOException {
        try (Stream<Path> files = Files.list(TESTS)) {
            for (Path file : files.filter(each -> each.toString().endsWith("Test.java")).toList()) {
                Check.holds("README: " + file + " is named", readme.contains("`" + TESTS + "/" + file.getFileName()));
            }
        }
    }

    private static void answersAreAsShown(Path folder, String name, String example) throws Exception {
        Path source = Files.writeString(folder.resolve(name + ".java"), classOf(name, example));
        int exit = ToolProvider.getSystemJavaCompiler().run(null, null, null,
                "-cp", System.getProperty("java.class.path"), "-d", folder.toString(), source.toString());
        Check.due("README: the compiler, for " + name, exit, 0);
        if (exit != 0) {
            return;
        }
        Iterator<?> answers = answersOf(folder, name).iterator();
        for (String line : example.split("\n")) {
            Matcher call = ANSWERED.matcher(line);
            if (call.matches()) {
                String answer = String.valueOf(answers.next());
                Check.holds("README: " + line + " (answered " + answer + ")", answer.equals(call.group("answer")));
            } else {
                Check.holds("README: an answer behind " + line, line.contains("= new WorkerRows("));
            }
        }
    }

    private static List<?> answersOf(Path folder, String name) throws Exception {
        try (URLClassLoader loader = new URLClassLoader(new URL[] {folder.toUri().toURL()})) {
            return (List<?>) loader.loadClass(name).getMethod("answers").invoke(null);
        }
    }

    private static String classOf(String name, String example) {
        StringBuilder text = new StringBuilder("public final class " + name + " {\n"
                + "public static java.util.List<Object> answers() {\n"
                + "java.util.List<Object> answers = new java.util.ArrayList<>();\n");
        for (String line : example.split("\n")) {
            text.append(keepingItsAnswer(line)).append('\n');
        }
        return text.append("return answers;\n}\n}\n").toString();
    }

    private static String keepingItsAnswer(String line) {
        Matcher call = ANSWERED.matcher(line);
        if (!call.matches()) {
            return line;
        }
        String variable = call.group("variable");
        return variable == null
                ? "answers.add(" + call.group("call") + ");"
                : "int " + variable + " = " + call.group("call") + "; answers.add(" + variable + ");";
    }

    private static void removeAll(Path folder) throws IOException {
        try (Stream<Path> files = Files.list(folder)) {
            for (Path file : files.toList()) {
                Files.delete(file);
            }
        }
        Files.delete(folder);
    }
}
