import java.nio.file.Files;
import java.nio.file.Path;
import java.util.List;
import java.util.regex.Matcher;
import java.util.regex.Pattern;

/** Those rules of ../shared/LANGUAGE.md that can be seen by a look at the source. */
public final class RulesTest {
    private static final String[] FORBIDDEN = {
        "->", "::", "\\bcatch\\b", "\\btry\\b", "\\bfinally\\b", "\\bassert\\b", "\\bsynchronized\\b", "\\bpackage\\b",
        "\\bprotected\\b", "\\bSystem\\.(?!arraycopy)", "Exact\\b", "\\bRandom\\b", "\\bThread\\b", "\\bdouble\\b",
        "\\bfloat\\b", "\\bObject\\b", "\\bstatic \\{", "\\bcurrentTimeMillis\\b", "\\bnanoTime\\b", "\\bvar\\b",
        "\\b(?:hashCode|equals|toString)\\b", "\\bstatic (?!final|boolean|int|String|class)", "@"
    };

    public static void main(String[] args) throws Exception {
        Checks checks = new Checks();
        String source = Files.readString(Path.of(System.getProperty("desk.source", "src/main/java/InstalmentDesk.java")));
        String code = source.replaceAll("(?s)/\\*.*?\\*/", "").replaceAll("//[^\n]*", "");
        for (String pattern : FORBIDDEN) {
            checks.holds("none of " + pattern, !Pattern.compile(pattern).matcher(code).find());
        }
        imports(checks, code);
        exceptions(checks, code);
        classes(checks, code);
        methods(checks, code.split("\n"));
        // Nothing is made but in constructors and at their fields, and exceptions.
        checks.holds("'new' stands at fields, in the Rows constructor and behind 'throw' alone",
            !code.replaceAll("(?m)^ +final \\S+ \\w+ = new [^\n]+$", "")
                .replaceAll("(?m)^ +private final \\S+ \\w+ = new [^\n]+$", "")
                .replaceAll("throw new NoSuchElementException\\(\"[^\"]*\"\\)", "")
                .replaceAll("(firsts|seconds) = new int\\[size\\]", "").contains("new "));
        checks.holds("signs 1 to 127 alone", source.chars().allMatch(sign -> sign > 0 && sign < 128));
        checks.close("RulesTest");
    }

    private static void imports(Checks checks, String code) {
        List<String> allowed = List.of("java.util.Arrays", "java.util.NoSuchElementException");
        Matcher matcher = Pattern.compile("(?m)^import ([^;]+);").matcher(code);
        while (matcher.find()) {
            checks.holds("import " + matcher.group(1), allowed.contains(matcher.group(1)));
        }
        Matcher calls = Pattern.compile("\\b(Arrays|Math|Integer|Long)\\.(\\w+)").matcher(code);
        while (calls.find()) {
            checks.holds(calls.group(), List.of("Arrays.fill", "Math.max", "Math.min").contains(calls.group()));
        }
    }

    private static void exceptions(Checks checks, String code) {
        Matcher matcher = Pattern.compile("\\bthrow\\b[^;]*;").matcher(code);
        while (matcher.find()) {
            checks.holds(matcher.group(), matcher.group().matches("throw new NoSuchElementException\\(\"[^\"]*\"\\);"));
        }
    }

    private static void classes(Checks checks, String code) {
        Matcher matcher = Pattern.compile("(?m)^(.*)\\bclass (\\w+)").matcher(code);
        int many = 0;
        while (matcher.find()) {
            many++;
            String own = matcher.group(2).equals("InstalmentDesk") ? "public final " : "    private static final ";
            checks.holds("class " + matcher.group(2), matcher.group(1).equals(own));
        }
        checks.holds("at most twelve classes", many >= 1 && many <= 12);
    }

    private static void methods(Checks checks, String[] lines) {
        Pattern head = Pattern.compile("^( +)(?:(?:public|private|static) )*\\w+(?:\\[\\])? ?\\w*\\(([^)]*)\\).*\\{$");
        for (int from = 0; from < lines.length; from++) {
            Matcher matcher = head.matcher(lines[from]);
            boolean isMethod = matcher.matches() && matcher.group(1).length() <= 8
                && !lines[from].matches(" +(if|for|while|switch|return|else)\\b.*");
            if (isMethod) {
                int to = from;
                while (!lines[to].equals(matcher.group(1) + "}")) {
                    to++;
                }
                checks.holds("short: " + lines[from].trim(), to - from < 60);
                checks.holds("few parameters: " + lines[from].trim(), matcher.group(2).split(",").length <= 7);
            }
        }
    }
}
