import java.io.ByteArrayOutputStream;
import java.io.IOException;
import java.io.PrintStream;
import java.nio.file.Files;
import java.nio.file.Path;
import java.util.List;

/** What README.md says of the class: its program and what that prints, and a row for each call. */
public final class ReadmeTests {
    private static final Path README = Path.of("README.md");
    private static final Path EXAMPLE = Path.of("src", "test", "java", "Example.java");

    public static void main(String[] args) {
        Check check = new Check("the readme");
        String readme = text(README);
        check.due("its program", program(), () -> block(readme, "```java\n"));
        check.due("what it prints", printed(), () -> block(readme, "```text\n"));
        List<String> rows = readme.lines().filter(line -> line.startsWith("| `")).toList();
        List<String> lines = new Document().face().stream().filter(line -> line.contains("(")).toList();
        check.due("a row for each call, and no other", lines.size(), rows::size);
        for (int n = 0; n < Math.min(lines.size(), rows.size()); n++) {
            String row = rows.get(n);
            check.due("row " + n + ", its call", call(lines.get(n)), () -> cell(row, 1));
            check.due("row " + n + ", what it throws", thrown(lines.get(n)), () -> cell(row, 3));
        }
        check.end();
    }

    private static String text(Path file) {
        try {
            return Files.readString(file);
        } catch (IOException e) {
            throw new IllegalStateException("there is no " + file.toAbsolutePath(), e);
        }
    }

    /** The program's own lines, without the comment above them. */
    private static String program() {
        String source = text(EXAMPLE);
        return source.substring(source.indexOf("public final class"));
    }

    private static String block(String readme, String fence) {
        int from = readme.indexOf(fence) + fence.length();
        return readme.substring(from, readme.indexOf("```", from));
    }

    private static String printed() {
        PrintStream before = System.out;
        ByteArrayOutputStream out = new ByteArrayOutputStream();
        System.setOut(new PrintStream(out, true));
        try {
            Example.main(new String[0]);
        } finally {
            System.setOut(before);
        }
        return out.toString().replace(System.lineSeparator(), "\n");
    }

    /** A line of the face as it is called: the name, and its parameters' names. */
    private static String call(String line) {
        String named = line.replaceAll(" throws .*", "").replaceAll("^public (int |boolean |void )?", "");
        return "`" + named.replaceAll("(int|boolean) ", "") + "`";
    }

    private static String thrown(String line) {
        int at = line.indexOf(" throws ");
        return at < 0 ? "" : line.substring(at + " throws ".length());
    }

    private static String cell(String row, int n) {
        String[] cells = row.split("\\|");
        return n < cells.length ? cells[n].trim() : "";
    }
}
