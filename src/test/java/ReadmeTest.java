import java.lang.reflect.Method;
import java.lang.reflect.Modifier;
import java.net.URL;
import java.net.URLClassLoader;
import java.nio.file.Files;
import java.nio.file.Path;
import java.util.ArrayList;
import java.util.Comparator;
import java.util.List;
import java.util.regex.Matcher;
import java.util.regex.Pattern;
import java.util.stream.Stream;
import javax.tools.ToolProvider;

/** README.md is true: its example compiles and answers as its comments say; it names every call and every test. */
public final class ReadmeTest {
    // A number that the example keeps, and the answer that stands first in the comment behind it.
    private static final Pattern KEPT = Pattern.compile("(?m)^int (\\w+) = .*; +// (-?\\d+)");

    public static void main(String[] args) throws Exception {
        Checks checks = new Checks();
        Path source = Path.of(System.getProperty("desk.source", "src/main/java/InstalmentDesk.java")).toAbsolutePath();
        Path root = source.getParent().getParent().getParent().getParent();
        String readme = Files.readString(root.resolve("README.md"));
        example(checks, readme);
        calls(checks, readme);
        tests(checks, readme, root.resolve("src/test/java"));
        checks.holds("it tells the script that runs the tests", readme.contains(".ci/run"));
        checks.close("ReadmeTest");
    }

    private static void example(Checks checks, String readme) throws Exception {
        Matcher block = Pattern.compile("(?s)```java\n(.*?)```").matcher(readme);
        checks.holds("it has an example", block.find());
        String code = block.group(1);
        List<String> names = new ArrayList<>();
        List<Integer> want = new ArrayList<>();
        Matcher kept = KEPT.matcher(code);
        while (kept.find()) {
            names.add(kept.group(1));
            want.add(Integer.parseInt(kept.group(2)));
        }
        checks.holds("the example tells answers", !names.isEmpty());
        int[] got = run(code, names);
        for (int i = 0; i < got.length; i++) {
            checks.due("the example: " + names.get(i), got[i], want.get(i));
        }
    }

    private static int[] run(String code, List<String> names) throws Exception {
        Path folder = Files.createTempDirectory("readme");
        try {
            Path file = folder.resolve("Example.java");
            Files.writeString(file, "public final class Example {\npublic static int[] answers() {\n" + code
                + "return new int[] {" + String.join(", ", names) + "};\n}\n}\n");
            int exit = ToolProvider.getSystemJavaCompiler().run(null, null, null, "-d", folder.toString(),
                "-cp", System.getProperty("java.class.path"), file.toString());
            if (exit != 0) {
                throw new IllegalStateException("the example does not compile");
            }
            try (URLClassLoader loader = new URLClassLoader(new URL[] {folder.toUri().toURL()})) {
                return (int[]) loader.loadClass("Example").getMethod("answers").invoke(null);
            }
        } finally {
            drop(folder);
        }
    }

    private static void drop(Path folder) throws Exception {
        try (Stream<Path> inside = Files.walk(folder)) {
            for (Path path : inside.sorted(Comparator.reverseOrder()).toList()) {
                Files.delete(path);
            }
        }
    }

    private static void calls(Checks checks, String readme) {
        for (Method method : InstalmentDesk.class.getDeclaredMethods()) {
            if (Modifier.isPublic(method.getModifiers())) {
                checks.holds("it names " + method.getName(), readme.contains("`" + method.getName() + "`"));
            }
        }
    }

    private static void tests(Checks checks, String readme, Path folder) throws Exception {
        try (Stream<Path> files = Files.list(folder)) {
            for (Path file : files.toList()) {
                String name = file.getFileName().toString().replace(".java", "");
                if (name.endsWith("Test")) {
                    checks.holds("it has a row for " + name, readme.contains("| `" + name + "` |"));
                }
            }
        }
        Matcher rows = Pattern.compile("(?m)^\\| `(\\w+Test)` \\|").matcher(readme);
        while (rows.find()) {
            checks.holds("there is a " + rows.group(1), Files.exists(folder.resolve(rows.group(1) + ".java")));
        }
    }
}
