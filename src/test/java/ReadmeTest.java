import java.io.ByteArrayOutputStream;
import java.io.File;
import java.io.IOException;
import java.io.PrintStream;
import java.net.URL;
import java.net.URLClassLoader;
import java.nio.charset.StandardCharsets;
import java.nio.file.Files;
import java.nio.file.Path;
import java.util.ArrayList;
import java.util.Comparator;
import java.util.List;
import java.util.regex.Matcher;
import java.util.regex.Pattern;
import java.util.stream.Stream;
import javax.tools.ToolProvider;

/** The example of README.md compiles and prints what it says; README.md names each call and each constant. */
public final class ReadmeTest {
    private static final Check check = new Check();

    private static final Path SOURCE = Path.of("src/main/java/NailedOrders.java");

    public static void main(String[] args) throws IOException, ReflectiveOperationException {
        check.promise("README.md");
        String readme = Files.readString(Path.of("README.md"));
        namesTheFace(readme);
        String example = firstGroup("(?s)```java\n(.*?)```", readme);
        List<String> told = allGroups("println\\(.*\\);\\s*// (.*)", example);
        check.dueTrue("the example tells what it prints", told.size() > 0);
        check.due("lines that print", allGroups("(println)", example).size(), told.size());
        List<String> printed = run(example);
        check.due("lines printed", printed.size(), told.size());
        for (int i = 0; i < told.size() && i < printed.size(); i++) {
            check.dueTrue("line " + i + ": " + printed.get(i) + ", told: " + told.get(i),
                    printed.get(i).equals(told.get(i)));
        }
        check.end();
    }

    private static void namesTheFace(String readme) throws IOException {
        String source = Files.readString(SOURCE);
        List<String> names = allGroups("(?m)^    public (?:int|float) (\\w+)\\(", source);
        check.due("methods of the face", names.size(), 25);
        for (String name : names) {
            check.dueTrue("names " + name, readme.contains("`" + name + "`"));
        }
        List<String> constants = allGroups("public static final int (\\w+ = -\\d)", source);
        check.due("constants of the face", constants.size(), 5);
        for (String constant : constants) {
            check.dueTrue("names " + constant, readme.contains("`" + constant.replace(" = ", "` (") + ")"));
        }
    }

    private static String firstGroup(String pattern, String text) {
        List<String> groups = allGroups(pattern, text);
        return groups.isEmpty() ? "" : groups.get(0);
    }

    private static List<String> allGroups(String pattern, String text) {
        List<String> groups = new ArrayList<>();
        Matcher matcher = Pattern.compile(pattern).matcher(text);
        while (matcher.find()) {
            groups.add(matcher.group(1).strip());
        }
        return groups;
    }

    /** What the example prints, line by line; nothing if it does not compile. */
    private static List<String> run(String example) throws IOException, ReflectiveOperationException {
        Path folder = Files.createTempDirectory("readme");
        try {
            Path file = folder.resolve("Example.java");
            Files.writeString(file, example);
            int failed = ToolProvider.getSystemJavaCompiler().run(null, null, null,
                    "-encoding", "UTF-8", "-d", folder.toString(), SOURCE.toString(), file.toString());
            check.due("javac Example.java", failed, 0);
            return failed == 0 ? printedBy(folder) : new ArrayList<>();
        } finally {
            remove(folder);
        }
    }

    private static List<String> printedBy(Path folder) throws IOException, ReflectiveOperationException {
        ByteArrayOutputStream caught = new ByteArrayOutputStream();
        PrintStream before = System.out;
        try (URLClassLoader loader = new URLClassLoader(new URL[] {folder.toUri().toURL()})) {
            System.setOut(new PrintStream(caught, true, StandardCharsets.UTF_8));
            loader.loadClass("Example").getMethod("main", String[].class).invoke(null, (Object) new String[0]);
        } finally {
            System.setOut(before);
        }
        return caught.toString(StandardCharsets.UTF_8).lines().toList();
    }

    private static void remove(Path folder) throws IOException {
        try (Stream<Path> files = Files.walk(folder)) {
            files.sorted(Comparator.reverseOrder()).map(Path::toFile).forEach(File::delete);
        }
    }
}
