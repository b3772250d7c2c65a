import java.io.IOException;
import java.nio.file.Files;
import java.nio.file.Path;
import java.util.ArrayList;
import java.util.LinkedHashMap;
import java.util.LinkedHashSet;
import java.util.List;
import java.util.Map;
import java.util.Set;
import java.util.regex.Matcher;
import java.util.regex.Pattern;

/** The text of ../shared/DOC.md by sections, and how much of it has been quoted. */
final class DocText {
    private final Map<String, String> texts = new LinkedHashMap<>();
    private final Map<String, boolean[]> quoted = new LinkedHashMap<>();

    DocText() throws IOException {
        String doc = Files.readString(Path.of("../shared/DOC.md"));
        for (String section : doc.split("(?m)^## ")) {
            int end = section.indexOf('\n');
            String title = section.substring(0, end).replaceFirst(":.*", "");
            // Code fences and the signature at a promise's head are no sentences.
            String text = section.substring(end).replaceAll("(?m)^```.*$", " ").replaceAll("`[^`]*`:", " ");
            texts.put(title, oneLine(text));
            quoted.put(title, new boolean[texts.get(title).length()]);
        }
    }

    private static String oneLine(String text) {
        return text.replaceAll("\\s+", " ").trim();
    }

    /** The methods of the public face, each as reflection tells it, but for the class's name. */
    Set<String> face() {
        Set<String> out = new LinkedHashSet<>();
        Matcher m = Pattern.compile("(public \\w+ \\w+\\()([^)]*)\\);").matcher(texts.get("The public face"));
        while (m.find()) {
            String types = m.group(2).replaceAll(" \\w+(, |$)", ",").replaceFirst(",$", "");
            out.add(m.group(1) + types + ")");
        }
        return out;
    }

    List<String> callNames() {
        List<String> out = new ArrayList<>();
        for (String call : face()) {
            out.add(call.replaceAll("^public \\w+ |\\(.*$", ""));
        }
        return out;
    }

    /** Where the piece stands, counted through the whole document; -1 if the section does not say so. */
    int placeOf(String section, String piece) {
        int before = 0;
        for (Map.Entry<String, String> entry : texts.entrySet()) {
            int at = entry.getValue().indexOf(oneLine(piece));
            if (entry.getKey().equals(section)) {
                return at < 0 ? -1 : before + at;
            }
            before += entry.getValue().length();
        }
        return -1;
    }

    /** Marks the piece as quoted; false if the section does not say so. */
    boolean quote(String section, String piece) {
        if (placeOf(section, piece) < 0) {
            return false;
        }
        int at = texts.get(section).indexOf(oneLine(piece));
        for (int i = at; i < at + oneLine(piece).length(); i++) {
            quoted.get(section)[i] = true;
        }
        return true;
    }

    /** The pieces of the section with a letter or a digit that nobody has quoted. */
    List<String> unquoted(String section) {
        String text = texts.getOrDefault(section, "no such section");
        boolean[] done = quoted.getOrDefault(section, new boolean[text.length()]);
        StringBuilder left = new StringBuilder();
        for (int i = 0; i < text.length(); i++) {
            left.append(done[i] ? '\n' : text.charAt(i));
        }
        List<String> out = new ArrayList<>();
        for (String piece : left.toString().split("\n+")) {
            if (piece.chars().anyMatch(Character::isLetterOrDigit)) {
                out.add(piece.trim());
            }
        }
        return out;
    }
}
