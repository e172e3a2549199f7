import java.nio.charset.StandardCharsets;
import java.nio.file.Files;
import java.nio.file.Path;
import java.util.ArrayList;
import java.util.List;
import java.util.stream.Stream;
import javax.tools.JavaCompiler;
import javax.tools.ToolProvider;

/** README.md: its example prints what it says, and no test is left out of it. Runs in the project's folder. */
public final class ReadmeTest {
    /** The lines of a fenced block of that sign, the one from number on (0 the first). */
    private static List<String> block(List<String> readme, String sign, int number) {
        List<String> lines = new ArrayList<>();
        int blocks = -1;
        boolean inside = false;
        for (String line : readme) {
            if (inside && line.equals("```")) inside = false;
            else if (line.equals("```" + sign)) {
                blocks++;
                inside = blocks == number;
            } else if (inside) lines.add(line);
        }
        return lines;
    }

    /** What a program prints, compiled beside the class. */
    private static List<String> printed(List<String> program, Path folder) throws Exception {
        Path file = folder.resolve("Example.java");
        Files.write(file, program);
        String classes = System.getProperty("java.class.path");
        JavaCompiler javac = ToolProvider.getSystemJavaCompiler();
        int left = javac.run(null, null, null, "--release", "17", "-cp", classes, "-d", folder.toString(), file.toString());
        Check.due("the example compiles", left, 0);
        if (left != 0) return new ArrayList<>();
        String java = Path.of(System.getProperty("java.home"), "bin", "java").toString();
        String both = folder + System.getProperty("path.separator") + classes;
        Process run = new ProcessBuilder(java, "-cp", both, "Example").redirectErrorStream(true).start();
        String all = new String(run.getInputStream().readAllBytes(), StandardCharsets.UTF_8);
        Check.due("the example ends well", run.waitFor(), 0);
        return all.lines().toList();
    }

    private static void example(List<String> readme) throws Exception {
        List<String> program = block(readme, "java", 0);
        List<String> due = block(readme, "text", 1);
        Check.yes("there is an example, and what it prints", !program.isEmpty() && !due.isEmpty());
        Path folder = Files.createTempDirectory("readme");
        List<String> got = printed(program, folder);
        Check.due("lines that the example prints", got.size(), due.size());
        for (int i = 0; i < Math.min(got.size(), due.size()); i++) {
            Check.yes("line " + i + ": '" + got.get(i) + "', README.md has '" + due.get(i) + "'", got.get(i).equals(due.get(i)));
        }
        try (Stream<Path> made = Files.list(folder)) {
            for (Path file : made.toList()) Files.delete(file);
        }
        Files.delete(folder);
    }

    private static void tests(String readme) throws Exception {
        try (Stream<Path> files = Files.list(Path.of("src/test/java"))) {
            for (Path file : files.toList()) {
                String name = file.getFileName().toString().replace(".java", "");
                if (name.endsWith("Test")) Check.yes(name + " stands in README.md", readme.contains("`" + name + "`"));
            }
        }
        Check.yes(".ci/run stands in README.md", readme.contains(".ci/run"));
    }

    public static void main(String[] args) throws Exception {
        List<String> readme = Files.readAllLines(Path.of("README.md"));
        example(readme);
        tests(String.join("\n", readme));
        Check.end("ReadmeTest");
    }
}
