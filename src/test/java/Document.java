import java.io.IOException;
import java.nio.file.Files;
import java.nio.file.Path;
import java.util.ArrayList;
import java.util.LinkedHashMap;
import java.util.List;
import java.util.Map;
import java.util.regex.Matcher;
import java.util.regex.Pattern;

/** The document's terms (parts T0 to T4) and promises (P1 to P32), and which of their words a test has named. */
final class Document {
    private final Map<String, String> parts = new LinkedHashMap<>();
    private final Map<String, boolean[]> named = new LinkedHashMap<>();

    Document(Path path) throws IOException {
        String text = Files.readString(path);
        String terms = text.substring(text.indexOf("## Terms") + 8, text.indexOf("Ahead of the calls"));
        String[] cut = terms.split("======== \\d ");
        for (int i = 0; i < cut.length; i++) {
            keep("T" + i, cut[i].replaceAll("```(text)?", " "));
        }
        String promises = text.substring(text.indexOf("## Promise 1:"), text.indexOf("## Not promised"));
        Matcher m = Pattern.compile("## Promise (\\d+): [^\n]*\n\n`[^`]*`: ([^\n]*)").matcher(promises);
        while (m.find()) {
            keep("P" + m.group(1), m.group(2));
        }
    }

    private void keep(String part, String text) {
        String plain = text.strip().replaceAll("\\s+", " ");
        parts.put(part, plain);
        named.put(part, new boolean[plain.length()]);
    }

    int many() {
        return parts.size();
    }

    /** Whether the part has these words; they count as named then. */
    boolean names(String part, String words) {
        String text = parts.get(part);
        int at = text == null ? -1 : text.indexOf(words);
        for (int i = 0; at >= 0 && i < words.length(); i++) {
            named.get(part)[at + i] = true;
        }
        return at >= 0;
    }

    /** What no test has named, but for lone signs. */
    List<String> unnamed() {
        List<String> all = new ArrayList<>();
        for (Map.Entry<String, String> part : parts.entrySet()) {
            StringBuilder left = new StringBuilder();
            boolean[] marks = named.get(part.getKey());
            for (int i = 0; i < marks.length; i++) {
                left.append(marks[i] ? '|' : part.getValue().charAt(i));
            }
            for (String words : left.toString().split("\\|+")) {
                if (words.matches(".*\\w.*")) {
                    all.add(part.getKey() + ": " + words.strip());
                }
            }
        }
        return all;
    }
}
