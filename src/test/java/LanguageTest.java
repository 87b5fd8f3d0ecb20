import java.io.IOException;
import java.nio.file.Files;
import java.nio.file.Path;
import java.util.regex.Matcher;
import java.util.regex.Pattern;

/** Rules of ../shared/LANGUAGE.md that can be seen in the text of the class. */
public final class LanguageTest {
    private static final String[] FORBIDDEN = {
        "\\b(throw|throws|try|catch|finally|synchronized|assert|native|volatile|transient|goto|protected|package)\\b",
        "->", "::", "\\w+Exact\\b", "\\bvar\\b", "@\\w+", "\\bextends\\b", "\\bstatic\\s*\\{",
        "\\b(System\\.(?!arraycopy\\b)\\w+|Random|Thread|Files?|Clock|Instant|Runtime)\\b",
        "\\b(Object|equals|hashCode|toString|getClass)\\b", "\\[\\]\\s*\\[\\]\\s*\\[\\]"};

    public static void main(String[] args) throws IOException {
        String source = Files.readString(Path.of("src/main/java/DripRings.java"));
        Check.holds("signs 1 to 127 alone", source.chars().allMatch(c -> c >= 1 && c <= 127));
        String code = source.replaceAll("(?s)/\\*.*?\\*/", "").replaceAll("//[^\\n]*", "");
        for (String pattern : FORBIDDEN) {
            Matcher m = Pattern.compile(pattern).matcher(code);
            Check.holds("none of " + pattern, !m.find());
        }
        imports(code);
        Check.holds("some twelve classes at most", many(code, "\\bclass\\s+\\w+") <= 12);
        Check.due("classes inside are private static final", many(code, "    private static final class "),
            many(code, "\\bclass\\s+\\w+") - 1);
        Check.due("static fields are final", many(code, "\\bstatic (?!final)\\w+ \\w+( =|;)"), 0);
        Check.due("no text joined by +", many(code, "\" \\+|\\+ \""), 0);
        methods(code);
        Check.end();
    }

    private static int many(String code, String pattern) {
        Matcher m = Pattern.compile(pattern).matcher(code);
        int n = 0;
        while (m.find()) {
            n++;
        }
        return n;
    }

    private static void imports(String code) {
        Matcher m = Pattern.compile("(?m)^import\\s+([^;]+);").matcher(code);
        while (m.find()) {
            Check.holds("import of " + m.group(1), m.group(1).matches("java\\.util\\.(Arrays|ArrayList|List|Iterator)"));
        }
    }

    /** Short methods of few parameters; things are made by constructors and fields, never by a call. */
    private static void methods(String code) {
        Matcher m = Pattern.compile("(?ms)^( +)(?:(?:public|private|static) )*(?:[\\w\\[\\]]+ )?(\\w+)\\(([^()]*)\\) \\{\\n"
            + "(.*?)^\\1\\}").matcher(code);
        int seen = 0;
        while (m.find()) {
            String name = m.group(2);
            if (name.matches("if|for|while|switch")) {
                continue;
            }
            seen++;
            Check.holds(name + " takes seven at most", m.group(3).split(",").length <= 7);
            Check.holds(name + " is short", m.group(4).split("\n").length <= 60);
            boolean makes = Character.isUpperCase(name.charAt(0));
            Check.holds(name + " makes nothing", makes || !Pattern.compile("\\bnew ").matcher(m.group(4)).find());
        }
        Check.holds("methods are seen: " + seen, seen > 60);
    }
}
