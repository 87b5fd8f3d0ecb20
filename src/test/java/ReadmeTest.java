import java.io.IOException;
import java.lang.reflect.Method;
import java.lang.reflect.Modifier;
import java.nio.file.Files;
import java.nio.file.Path;
import java.util.Arrays;
import java.util.Map;
import java.util.regex.Matcher;
import java.util.regex.Pattern;

/** README.md: its example answers what the class answers; its tables leave out no call and no negative answer. */
public final class ReadmeTest {
    private static final Pattern CALL = Pattern.compile("x\\.(\\w+)\\(([^)]*)\\); +// (-?\\d+): .*");
    private static final Pattern TEXT = Pattern.compile("String text = \"(.*)\";");

    public static void main(String[] args) throws IOException {
        String page = Files.readString(Path.of("README.md"));
        example(page);
        for (Method m : DripRings.class.getDeclaredMethods()) {
            if (Modifier.isPublic(m.getModifiers())) {
                Check.due("rows of " + m.getName(), rows(page, "`" + m.getName() + "\\([^)]*\\)`"), 1);
            }
        }
        Map<String, Integer> negative = Map.of("BAD", DripRings.BAD, "STATE", DripRings.STATE, "FULL", DripRings.FULL,
            "NONE", DripRings.NONE, "NO", DripRings.NO);
        negative.forEach((name, number) ->
            Check.due("rows of " + name, rows(page, "`" + name + "` *\\| " + number + " *"), 1));
        Check.end();
    }

    private static int rows(String page, String begin) {
        return (int) Pattern.compile("(?m)^\\| " + begin + " *\\|").matcher(page).results().count();
    }

    private static void example(String page) {
        Matcher block = Pattern.compile("(?s)```java\n(.*?)```").matcher(page);
        Check.holds("there is an example", block.find());
        Player player = new Player();
        int asked = 0;
        for (String line : block.group(1).split("\n")) {
            Matcher text = TEXT.matcher(line);
            if (text.matches()) {
                text.group(1).chars().forEach(c -> player.call("type", c));
            }
            Matcher call = CALL.matcher(line);
            if (call.matches()) {
                Check.due("README: " + line, player.call(call.group(1), numbers(call.group(2))),
                    Long.parseLong(call.group(3)));
                asked++;
            }
        }
        Check.holds("answers in the example: " + asked, asked >= 8);
    }

    /** Numbers, or letters in quotes. */
    private static int[] numbers(String told) {
        return Arrays.stream(told.split(", *")).filter(t -> !t.isEmpty())
            .mapToInt(t -> t.charAt(0) == '\'' ? t.charAt(1) : Integer.parseInt(t)).toArray();
    }
}
