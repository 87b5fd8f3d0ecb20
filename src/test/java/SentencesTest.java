import java.io.IOException;
import java.nio.file.Files;
import java.nio.file.Path;
import java.util.ArrayList;
import java.util.List;
import java.util.stream.Stream;

/**
 * The sentences of the document, one by one, each with runs of calls and the answers due: src/test/sentences/*.txt.
 * Of each call that asks, or is refused, it is seen too that every answer behind it is as before.
 *
 * A line "== .." quotes the document; "--" begins a new object; "# .." is a remark; "long" says that the run leaves no
 * calls to see whether all is as before. Else a line is a call: how often (if not once), its name, its numbers, and
 * "= answer"; or "text .." : letters typed.
 */
public final class SentencesTest {
    private static final List<String> QUESTIONS = List.of("order", "due", "now", "all", "above", "least", "met", "left",
        "age", "first", "mayBe", "smelt", "odds", "barley", "count", "trace");
    private static final List<String> REFUSALS = List.of("BAD", "STATE", "FULL", "NO");

    private final String place;
    private final List<String> changes = new ArrayList<>();
    private final List<String> played = new ArrayList<>();
    private Player player = new Player();
    private List<String> before = null;
    private boolean longRun = false;

    private SentencesTest(String place) {
        this.place = place;
    }

    public static void main(String[] args) throws IOException {
        Document document = new Document(Path.of("../shared/DOC.md"));
        List<Path> files;
        try (Stream<Path> all = Files.list(Path.of("src/test/sentences"))) {
            files = all.filter(f -> f.toString().endsWith(".txt")).sorted().toList();
        }
        int runs = 0;
        for (Path file : files) {
            runs += play(file, document);
        }
        document.seeThatAllIsQuoted();
        System.out.println(runs + " runs of " + document.quotes() + " sentences");
        Check.end();
    }

    private static int play(Path file, Document document) throws IOException {
        SentencesTest run = null;
        int runs = 0;
        boolean heading = false;
        String quote = "";
        for (String line : Files.readAllLines(file)) {
            if (line.startsWith("== ")) {
                quote = heading ? quote : line;
                document.quote(line.substring(3));
                heading = true;
                run = null;
            } else if (line.equals("--")) {
                run = null;
            } else if (!line.isBlank() && !line.startsWith("#")) {
                if (run == null) {
                    run = new SentencesTest(file.getFileName() + ", " + quote);
                    runs++;
                }
                heading = false;
                run.step(line);
            }
        }
        return runs;
    }

    private void step(String line) {
        if (line.equals("long")) {
            longRun = true;
            return;
        }
        String[] halves = line.startsWith("text ") ? new String[] {line} : line.split(" = ", 2);
        List<long[]> answers = new ArrayList<>();
        perform(player, halves[0], answers);
        played.add(halves[0]);
        if (halves.length == 2) {
            long want = answer(halves[1]);
            for (long[] got : answers) {
                Check.due(place + ": " + line + ", behind " + behind(), got[0], want);
            }
        }
        Check.holds(place + ": calls are not too many", player.calls() <= Player.MOST_CALLS);
        String last = halves.length == 2 ? halves[1] : "";
        if (!longRun && (QUESTIONS.contains(name(halves[0])) || REFUSALS.contains(last) || last.startsWith("FAULT"))) {
            seeThatAllIsAsBefore(line);
        } else {
            changes.add(halves[0]);
            before = null;
        }
    }

    private String behind() {
        int from = Math.max(0, played.size() - 6);
        return String.join(", ", played.subList(from, played.size() - 1));
    }

    /** The object that has had this call, too, against one that has only had what changes something. */
    private void seeThatAllIsAsBefore(String line) {
        if (before == null) {
            before = playAgain(changes).everyAnswer();
        }
        Player again = playAgain(played);
        List<String> behind = again.everyAnswer();
        Check.holds(place + ": calls leave room to ask all", again.calls() <= Player.MOST_CALLS);
        for (int i = 0; i < before.size(); i++) {
            Check.holds(place + ": " + line + ", behind " + behind() + ": then " + behind.get(i) + " was ahead of it "
                + before.get(i), before.get(i).equals(behind.get(i)));
        }
    }

    private static Player playAgain(List<String> lines) {
        Player again = new Player();
        for (String line : lines) {
            perform(again, line, new ArrayList<>());
        }
        return again;
    }

    private static String name(String call) {
        for (String word : call.split(" ")) {
            if (!word.matches("-?\\d+")) {
                return word;
            }
        }
        return "";
    }

    private static void perform(Player player, String call, List<long[]> answers) {
        if (call.startsWith("text ")) {
            for (char c : call.substring(5).toCharArray()) {
                player.call("type", c);
            }
            return;
        }
        String[] words = call.split(" ");
        int from = words[0].matches("\\d+") ? 1 : 0;
        int often = from == 1 ? Integer.parseInt(words[0]) : 1;
        int[] numbers = new int[words.length - from - 1];
        for (int i = 0; i < numbers.length; i++) {
            numbers[i] = Integer.parseInt(words[from + 1 + i]);
        }
        for (int i = 0; i < often; i++) {
            answers.add(new long[] {player.call(words[from], numbers)});
        }
    }

    private static long answer(String told) {
        if (told.startsWith("FAULT ")) {
            return -10 - Long.parseLong(told.substring(6));
        }
        switch (told) {
            case "BAD":
                return -1;
            case "STATE":
                return -2;
            case "FULL":
                return -3;
            case "NONE":
                return -9;
            case "NO":
                return -1000000;
            default:
                return Long.parseLong(told);
        }
    }
}
