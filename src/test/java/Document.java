import java.io.IOException;
import java.nio.file.Files;
import java.nio.file.Path;

/** What the document says, and which of its words a test has quoted. */
final class Document {
    private final String words;
    private final boolean[] quoted;
    private int quotes = 0;

    Document(Path file) throws IOException {
        String all = Files.readString(file);
        int from = all.indexOf("An object is used");
        int to = all.indexOf("## Not promised");
        words = plain(all.substring(from, to));
        quoted = new boolean[words.length()];
    }

    private static String plain(String told) {
        return told.replaceAll("(?s)## The public face.*?## Terms", "").replace("```text", "").replace("```", "")
            .replaceAll("======== \\d", "").replaceAll("(?m)^Ahead of the calls .*$", "")
            .replaceAll("(?m)^## Promise .*$", "").replaceAll("(?m)^`[^`]*`:", "").replaceAll("\\s+", " ");
    }

    int quotes() {
        return quotes;
    }

    void quote(String told) {
        quotes++;
        int at = words.indexOf(told);
        Check.holds("the document says: " + told, at >= 0);
        for (; at >= 0; at = words.indexOf(told, at + 1)) {
            for (int i = at; i < at + told.length(); i++) {
                quoted[i] = true;
            }
        }
    }

    void seeThatAllIsQuoted() {
        StringBuilder left = new StringBuilder();
        for (int i = 0; i <= words.length(); i++) {
            if (i < words.length() && !quoted[i]) {
                left.append(words.charAt(i));
            } else if (left.length() > 0) {
                Check.holds("a test quotes: " + left, left.toString().matches("[ .;:,()`]*"));
                left.setLength(0);
            }
        }
    }
}
