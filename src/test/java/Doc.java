import java.io.IOException;
import java.nio.file.Files;
import java.nio.file.Path;
import java.util.ArrayList;
import java.util.List;
import java.util.regex.Matcher;
import java.util.regex.Pattern;

/** The document's Terms (part 0) and promises (parts 1 to 35), and which of their words a test has named as its own. */
final class Doc {
    private static final int PARTS = 36;
    private final String[] parts = new String[PARTS];
    private final boolean[][] named = new boolean[PARTS][];

    Doc(Path file) throws IOException {
        String all = Files.readString(file);
        parts[0] = wordsOf(between(all, "## Terms\n", "Ahead of the calls").replaceAll("==== \\d|```(text)?", " "));
        Matcher head = Pattern.compile("## Promise (\\d+): .*\n").matcher(all);
        while (head.find()) {
            String line = between(all, head.group(), "\n## ");
            parts[Integer.parseInt(head.group(1))] = wordsOf(line.replaceFirst("`[^`]*`:", " "));
        }
        for (int part = 0; part < PARTS; part++) {
            if (parts[part] == null) {
                throw new IllegalStateException("the document has no part " + part);
            }
            named[part] = new boolean[parts[part].length()];
        }
    }

    private static String between(String all, String head, String end) {
        int from = all.indexOf(head) + head.length();
        return all.substring(from, all.indexOf(end, from));
    }

    private static String wordsOf(String text) {
        return text.replaceAll("\\s+", " ").trim();
    }

    /** False: the part does not say so, or says it more than once, so that it is not plain which is meant. */
    boolean name(int part, String words) {
        int at = parts[part].indexOf(words);
        if (at < 0 || parts[part].indexOf(words, at + 1) >= 0) {
            return false;
        }
        for (int i = at; i < at + words.length(); i++) {
            named[part][i] = true;
        }
        return true;
    }

    /** What no test has named, part by part. */
    List<String> unnamed() {
        List<String> rests = new ArrayList<>();
        for (int part = 0; part < PARTS; part++) {
            StringBuilder rest = new StringBuilder();
            for (int i = 0; i < parts[part].length(); i++) {
                rest.append(named[part][i] ? '\n' : parts[part].charAt(i));
            }
            for (String words : rest.toString().split("\n+")) {
                if (Pattern.compile("[A-Za-z0-9]").matcher(words).find()) {
                    rests.add(part + ": " + words.trim());
                }
            }
        }
        return rests;
    }
}
