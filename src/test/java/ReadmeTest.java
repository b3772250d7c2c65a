import java.io.File;
import java.io.IOException;
import java.nio.file.Files;
import java.nio.file.Path;
import java.util.ArrayList;
import java.util.Comparator;
import java.util.List;
import java.util.regex.Matcher;
import java.util.regex.Pattern;
import java.util.stream.Stream;

/** README.md: its examples answer what they say, it names every call of the document, and its commands work. */
public final class ReadmeTest {
    private static final Path README = Path.of("README.md");
    // A call on a line of its own, and a number behind it in a comment.
    private static final Pattern ANSWERED = Pattern.compile("^\\s*(p\\.\\w+\\(.*\\));\\s*// (-?\\d+)\\b.*$");

    private ReadmeTest() {
    }

    private static void dueTrue(String what, boolean holds) {
        Check.due(what, holds ? 1 : 0, 1);
    }

    private static List<String> blocks(String readme, String language) {
        List<String> out = new ArrayList<>();
        Matcher m = Pattern.compile("(?ms)^```" + language + "$\\n(.*?)^```$").matcher(readme);
        while (m.find()) {
            out.add(m.group(1));
        }
        return out;
    }

    /** Those that declare functions stand beside the examples, the others become examples of their own. */
    private static boolean declares(String block) {
        return block.startsWith("static ");
    }

    private static String compared(String line) {
        Matcher m = ANSWERED.matcher(line);
        if (!m.matches()) {
            return line;
        }
        String call = m.group(1);
        return "Check.due(\"README.md: " + call + "\", " + call + ", " + m.group(2) + ");";
    }

    private static String program(List<String> blocks) {
        StringBuilder members = new StringBuilder();
        StringBuilder main = new StringBuilder();
        for (String block : blocks) {
            if (declares(block)) {
                members.append(block);
            } else {
                main.append("{\n");
                block.lines().forEach(line -> main.append(compared(line)).append('\n'));
                main.append("}\n");
            }
        }
        return "final class ReadmeExamples {\n" + members + "public static void main(String[] args) {\n" + main
            + "Check.end(\"README.md's examples\");\n}\n}\n";
    }

    private static int exitCode(Path scratch, String... command) throws IOException, InterruptedException {
        ProcessBuilder builder = new ProcessBuilder(command).inheritIO();
        builder.environment().put("TMPDIR", scratch.toString());
        return builder.start().waitFor();
    }

    private static void examples(String readme, Path scratch) throws IOException, InterruptedException {
        List<String> blocks = blocks(readme, "java");
        for (String block : blocks) {
            dueTrue("an example compares something: " + block,
                declares(block) || block.lines().anyMatch(line -> ANSWERED.matcher(line).matches()));
        }
        Path source = Files.writeString(scratch.resolve("ReadmeExamples.java"), program(blocks));
        String own = System.getProperty("java.class.path");
        Check.due("the examples compile",
            exitCode(scratch, "javac", "-cp", own, "-d", scratch.toString(), source.toString()), 0);
        Check.due("the examples answer what README.md says",
            exitCode(scratch, "java", "-cp", scratch + File.pathSeparator + own, "ReadmeExamples"), 0);
    }

    private static void everyCall(String readme) throws IOException {
        for (String name : new DocText().callNames()) {
            dueTrue("the table of calls has " + name, readme.contains("\n| `" + name + "("));
            dueTrue("an example has " + name, String.join("", blocks(readme, "java")).contains("p." + name + "("));
        }
    }

    private static void commands(String readme, Path scratch) throws IOException, InterruptedException {
        List<String> blocks = blocks(readme, "sh");
        dueTrue("the command for all tests comes first", !blocks.isEmpty() && blocks.get(0).equals(".ci/run\n"));
        dueTrue(".ci/run is there", Files.isRegularFile(Path.of(".ci/run")));
        // Not .ci/run itself: it is what runs this test.
        for (String block : blocks.subList(1, blocks.size())) {
            Check.due("the commands work: " + block, exitCode(scratch, "sh", "-e", "-c", block), 0);
        }
    }

    private static void testNames(String readme) throws IOException {
        try (Stream<Path> files = Files.list(Path.of("src/test/java"))) {
            for (Path file : files.toList()) {
                String name = file.getFileName().toString().replace(".java", "");
                dueTrue("README.md names " + name, !name.endsWith("Test") || readme.contains("`" + name + "`"));
            }
        }
    }

    private static void delete(Path scratch) throws IOException {
        try (Stream<Path> all = Files.walk(scratch)) {
            for (Path path : all.sorted(Comparator.reverseOrder()).toList()) {
                Files.delete(path);
            }
        }
    }

    public static void main(String[] args) throws IOException, InterruptedException {
        String readme = Files.readString(README);
        Path scratch = Files.createTempDirectory("readme");
        try {
            examples(readme, scratch);
            everyCall(readme);
            commands(readme, scratch);
            testNames(readme);
        } finally {
            delete(scratch);
        }
        Check.end("ReadmeTest");
    }
}
