import java.io.File;
import java.io.IOException;
import java.nio.charset.StandardCharsets;
import java.nio.file.Files;
import java.nio.file.Path;
import java.util.ArrayList;
import java.util.List;
import java.util.TreeSet;
import java.util.regex.Matcher;
import java.util.regex.Pattern;

/** README.md: its example is compiled and prints what it says, and its table has each call of the face once. */
public final class ReadmeTest {
    private static final Path DIR = Path.of("build", "readme");
    private static final String SOURCE = "src/main/java/SecondWell.java";

    public static void main(String[] args) throws Exception {
        String readme = Files.readString(Path.of("README.md"));
        example(block(readme, "java"), block(readme, "text"));
        calls(readme, Files.readString(Path.of(SOURCE)));
        answers(readme);
        Check.due("README says how to run the tests", readme.contains(".ci/run") ? 1 : 0, 1);
        Check.finish("ReadmeTest");
    }

    /** The first block of a kind. */
    private static String block(String readme, String kind) {
        Matcher m = Pattern.compile("```" + kind + "\n(.*?)```", Pattern.DOTALL).matcher(readme);
        boolean found = m.find();
        Check.due("README has a block of " + kind, found ? 1 : 0, 1);
        return found ? m.group(1) : "";
    }

    private static void example(String program, String printed) throws IOException, InterruptedException {
        Files.createDirectories(DIR);
        Path file = DIR.resolve("Example.java");
        Files.writeString(file, program);
        Check.due("javac of README's example", "".equals(run("javac", "-d", DIR.toString(), SOURCE, file.toString())) ? 1 : 0, 1);
        String[] got = run("java", "-cp", DIR.toString(), "Example").split("\n");
        String[] want = printed.split("\n");
        Check.due("lines that README's example prints", got.length, want.length);
        for (int i = 0; i < Math.min(got.length, want.length); i++) {
            Check.due("README says '" + want[i] + "', its example '" + got[i] + "'", got[i].equals(want[i]) ? 1 : 0, 1);
        }
    }

    private static String run(String... command) throws IOException, InterruptedException {
        File out = DIR.resolve("printed").toFile();
        Process p = new ProcessBuilder(command).redirectErrorStream(true).redirectOutput(out).start();
        Check.due("exit code of " + String.join(" ", command), p.waitFor(), 0);
        return Files.readString(out.toPath(), StandardCharsets.UTF_8);
    }

    private static void calls(String readme, String source) {
        List<String> face = new ArrayList<>();
        Matcher m = Pattern.compile("public int (\\w+)\\(([^)]*)\\)").matcher(source);
        while (m.find()) {
            face.add(m.group(1) + "(" + m.group(2).replaceAll("(int|long) ", "") + ")");
        }
        List<String> rows = new ArrayList<>();
        Matcher row = Pattern.compile("(?m)^\\| `(\\w+\\([^)]*\\))` \\| \\S").matcher(readme);
        while (row.find()) {
            rows.add(row.group(1));
        }
        for (String call : face) {
            Check.due("README's table has " + call, rows.contains(call) ? 1 : 0, 1);
        }
        Check.due("each once, and no other", rows.size(), face.size());
        Check.due("unlike ones", new TreeSet<>(rows).size(), face.size());
    }

    /** Each answer below 0 that README names is told why in a row of its own. */
    private static void answers(String readme) {
        for (int answer = -8; answer < 0; answer++) {
            boolean found = Pattern.compile("(?m)^\\| " + answer + "\\b[^|]* \\| \\S").matcher(readme).find();
            Check.due("README's table has " + answer, found ? 1 : 0, 1);
        }
        Check.due("README's table has -1000, -1005", readme.contains("\n| -1000, -1005 | ") ? 1 : 0, 1);
    }
}
