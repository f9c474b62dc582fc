import java.io.ByteArrayOutputStream;
import java.io.IOException;
import java.io.PrintStream;
import java.net.URL;
import java.net.URLClassLoader;
import java.nio.file.Files;
import java.nio.file.Path;
import java.util.ArrayList;
import java.util.List;
import java.util.regex.Matcher;
import java.util.regex.Pattern;
import javax.tools.ToolProvider;

/** The program that README.md shows compiles, and prints the numbers that its comments begin with. */
public final class ReadmeTest {
    private static final Answers A = new Answers("ReadmeTest");
    private static final Pattern PRINTED = Pattern.compile("System\\.out\\.println\\(.*\\);\\s*// (-?\\d+)(:|$)");

    public static void main(String[] args) throws IOException, ReflectiveOperationException {
        List<String> program = shown(Files.readAllLines(Path.of("README.md")));
        Path out = Files.createTempDirectory("readme");
        Path source = out.resolve("Example.java");
        try {
            Files.write(source, program);
            int failed = ToolProvider.getSystemJavaCompiler().run(null, null, null, "--release", "17",
                "-cp", System.getProperty("java.class.path"), "-d", out.toString(), source.toString());
            A.due("javac of the program in README.md", failed, 0);
            if (failed == 0 && !program.isEmpty()) {
                answersAsSaid(program, printedBy(out));
            }
        } finally {
            Files.deleteIfExists(source);
            Files.deleteIfExists(out.resolve("Example.class"));
            Files.deleteIfExists(out);
        }
        A.end();
    }

    private static List<String> shown(List<String> readme) {
        int from = readme.indexOf("```java") + 1;
        int length = readme.subList(from, readme.size()).indexOf("```");
        A.due("README.md shows a program", from > 0 && length > 0 ? 1 : 0, 1);
        return from > 0 && length > 0 ? readme.subList(from, from + length) : List.of();
    }

    private static String[] printedBy(Path classes) throws IOException, ReflectiveOperationException {
        ByteArrayOutputStream bytes = new ByteArrayOutputStream();
        PrintStream usual = System.out;
        try (URLClassLoader loader = new URLClassLoader(new URL[] {classes.toUri().toURL()})) {
            System.setOut(new PrintStream(bytes, true));
            loader.loadClass("Example").getMethod("main", String[].class).invoke(null, (Object) new String[0]);
        } finally {
            System.setOut(usual);
        }
        return bytes.toString().split("\\R");
    }

    private static void answersAsSaid(List<String> program, String[] printed) {
        List<String> asking = new ArrayList<>();
        for (String line : program) {
            if (line.contains("System.out.println")) {
                asking.add(line.trim());
            }
        }
        A.due("lines that are printed", printed.length, asking.size());
        for (int i = 0; i < Math.min(printed.length, asking.size()); i++) {
            Matcher said = PRINTED.matcher(asking.get(i));
            boolean tells = said.find();
            A.due("a comment tells what is printed by " + asking.get(i), tells ? 1 : 0, 1);
            if (tells) {
                A.due(asking.get(i), Long.parseLong(printed[i]), Long.parseLong(said.group(1)));
            }
        }
    }
}
