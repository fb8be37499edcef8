import java.io.IOException;
import java.nio.file.Files;
import java.nio.file.Path;
import java.util.ArrayList;
import java.util.Arrays;
import java.util.LinkedHashMap;
import java.util.List;
import java.util.Map;

/** DOC.md by its sections, and which of its words a test has quoted. */
final class Document {
    private final Map<String, String> sections = new LinkedHashMap<>();
    private final Map<String, boolean[]> quoted = new LinkedHashMap<>();

    /** Where the document is not there, every quote stands, and nothing is left unquoted. */
    Document(Path path) throws IOException {
        String all = Files.exists(path) ? Files.readString(path) : "";
        for (String section : all.split("(?m)^## ")) {
            int end = Math.max(0, section.indexOf('\n'));
            String words = plain(section.substring(end));
            sections.put(plain(section.substring(0, end)), words);
            quoted.put(plain(section.substring(0, end)), new boolean[words.length()]);
        }
    }

    private static String plain(String text) {
        return text.replaceAll("```[a-z]*", " ").replaceAll("\\s+", " ").trim();
    }

    String words(String section) {
        return sections.getOrDefault(section, "");
    }

    private boolean isThere() {
        return sections.size() > 1;
    }

    /** Whether the words stand in the section; they count as quoted from now on. */
    boolean quote(String section, String words) {
        if (!isThere()) {
            return true;
        }
        String text = sections.getOrDefault(section, "");
        int at = text.indexOf(words);
        boolean found = at >= 0;
        while (at >= 0) {
            Arrays.fill(quoted.get(section), at, at + words.length(), true);
            at = text.indexOf(words, at + 1);
        }
        return found;
    }

    /** What no test has quoted; what is told to be not promised needs no test. */
    List<String> unquoted() {
        List<String> found = new ArrayList<>();
        for (String section : sections.keySet()) {
            if (isThere() && !section.equals("Not promised") && !section.startsWith("# ")) {
                for (String line : unquotedOf(section)) {
                    found.add(section + ": " + line);
                }
            }
        }
        return found;
    }

    private List<String> unquotedOf(String section) {
        StringBuilder rest = new StringBuilder();
        String text = sections.get(section);
        for (int i = 0; i < text.length(); i++) {
            rest.append(quoted.get(section)[i] ? '\n' : text.charAt(i));
        }
        List<String> found = new ArrayList<>();
        String left = rest.toString().replaceAll("^`[^`]*`:", "").replaceAll("======== [12]", "");
        for (String line : left.split("\n")) {
            if (line.matches(".*\\w.*")) {
                found.add(line.trim());
            }
        }
        return found;
    }
}
