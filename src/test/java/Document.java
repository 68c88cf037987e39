import java.io.IOException;
import java.nio.file.Files;
import java.nio.file.Path;
import java.util.ArrayList;
import java.util.List;
import java.util.Map;
import java.util.TreeMap;
import java.util.regex.Matcher;
import java.util.regex.Pattern;

/** The document: its face, and the words of its Terms and Promises with those of them that a test has named. */
final class Document {
    private static final Path FILE = Path.of("..", "shared", "DOC.md");
    private static final Pattern CALL = Pattern.compile("^\\s*`([^`]*)`: ");

    private final List<String> face = new ArrayList<>();
    private final List<String> calls = new ArrayList<>();
    private final Map<String, String> words = new TreeMap<>();
    private final Map<String, boolean[]> named = new TreeMap<>();

    Document() {
        for (String part : text().split("(?m)^## ")) {
            String heading = part.lines().findFirst().orElse("");
            String section = heading.replaceAll(":.*", "").trim();
            String rest = part.substring(heading.length());
            if (section.equals("The public face")) {
                rest.lines().map(String::trim).filter(line -> line.endsWith(";"))
                        .forEach(line -> face.add(line.substring(0, line.length() - 1)));
            } else if (section.equals("Terms") || section.startsWith("Promise ")) {
                keep(section, rest);
            }
        }
    }

    private void keep(String section, String rest) {
        Matcher call = CALL.matcher(rest);
        if (call.find()) {
            calls.add(call.group(1));
        }
        words.put(section, plain(rest));
        named.put(section, new boolean[words.get(section).length()]);
    }

    /** The lines of the public face, those inside its class, without the semicolon. */
    List<String> face() {
        return face;
    }

    /** The call that each promise begins with, in the order of the promises. */
    List<String> calls() {
        return calls;
    }

    private static String text() {
        try {
            return Files.readString(FILE);
        } catch (IOException e) {
            throw new IllegalStateException("the document is not at " + FILE.toAbsolutePath(), e);
        }
    }

    /** Without the fences round a part of it, and without the line of the face, which FaceTests looks at. */
    private static String plain(String part) {
        String oneLine = part.replace("```text", " ").replace("```", " ").replaceAll("\\s+", " ").trim();
        return CALL.matcher(oneLine).replaceFirst("");
    }

    int promises() {
        return words.size() - 1;
    }

    /** Whether the section has these words; they count as named then. */
    boolean name(String section, String said) {
        String all = words.getOrDefault(section, "");
        int from = all.indexOf(said);
        if (from < 0 || said.isEmpty()) {
            return false;
        }
        for (int n = from; n < from + said.length(); n++) {
            named.get(section)[n] = true;
        }
        return true;
    }

    /** The words that no test has named. */
    List<String> unnamed() {
        List<String> found = new ArrayList<>();
        for (String section : words.keySet()) {
            StringBuilder left = new StringBuilder();
            for (int n = 0; n < words.get(section).length(); n++) {
                left.append(named.get(section)[n] ? '\n' : words.get(section).charAt(n));
            }
            for (String piece : left.toString().split("\n+")) {
                if (piece.chars().anyMatch(Character::isLetterOrDigit)) {
                    found.add(section + ": " + piece.trim());
                }
            }
        }
        return found;
    }
}
