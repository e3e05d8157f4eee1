import java.io.ByteArrayOutputStream;
import java.io.IOException;
import java.io.PrintStream;
import java.net.URL;
import java.net.URLClassLoader;
import java.nio.file.Files;
import java.nio.file.Path;
import java.util.ArrayList;
import java.util.List;
import java.util.spi.ToolProvider;

/**
 * The example in README.md compiles as it stands there, and each call answers what is written behind it; its book
 * has no error.
 */
public final class ReadmeTest {
    private static final Check CHECK = new Check();
    private static final String NAME = "Example";
    private static final String PRINTS = "System.out.println(";
    private static final String BEHIND = ");";

    public static void main(String[] args) throws Exception {
        List<String> page = Files.readAllLines(Path.of("README.md"));
        CHECK.same("teach() of the book in README.md", taught(block(page, "text", "moon")), 0);
        List<String> example = block(page, "java", "class " + NAME);
        List<String> answers = compileAndRun(example);
        int place = 0;
        for (String line : example) {
            if (line.contains(PRINTS)) {
                CHECK.sameText(call(line), place < answers.size() ? answers.get(place) : "nothing", due(line));
                place++;
            }
        }
        CHECK.same("answers of the example", answers.size(), place);
        CHECK.end();
    }

    /** The lines of the first block of that language that has the words. */
    private static List<String> block(List<String> page, String language, String words) {
        List<String> block = new ArrayList<>();
        boolean inside = false;
        for (String line : page) {
            if (inside && line.equals("```")) {
                if (String.join("\n", block).contains(words)) {
                    return block;
                }
                inside = false;
            } else if (inside) {
                block.add(line);
            } else if (line.equals("```" + language)) {
                inside = true;
                block.clear();
            }
        }
        throw new IllegalStateException("README.md has no block of " + language + " with " + words);
    }

    private static int taught(List<String> book) {
        CommaStream stream = new CommaStream();
        Check.feed(stream, String.join("\n", book));
        return stream.teach();
    }

    private static String call(String line) {
        int from = line.indexOf(PRINTS) + PRINTS.length();
        return "README.md: " + line.substring(from, line.indexOf(BEHIND, from));
    }

    private static String due(String line) {
        String mark = "// ";
        int at = line.indexOf(mark);
        return at < 0 ? "an answer behind the call" : line.substring(at + mark.length()).trim();
    }

    private static List<String> compileAndRun(List<String> example) throws Exception {
        Path room = Files.createTempDirectory("readme");
        try {
            compile(example, room);
            return run(room);
        } finally {
            empty(room);
        }
    }

    private static void compile(List<String> example, Path room) throws IOException {
        Path source = room.resolve(NAME + ".java");
        Files.write(source, example);
        ToolProvider javac = ToolProvider.findFirst("javac").orElseThrow();
        int failed = javac.run(System.out, System.err, "-encoding", "UTF-8", "-proc:none", "-classpath",
            System.getProperty("java.class.path"), "-d", room.toString(), source.toString());
        CHECK.same("javac of the example", failed, 0);
    }

    private static List<String> run(Path room) throws Exception {
        ByteArrayOutputStream said = new ByteArrayOutputStream();
        PrintStream usual = System.out;
        try (URLClassLoader loader = new URLClassLoader(new URL[] {room.toUri().toURL()})) {
            System.setOut(new PrintStream(said, true));
            loader.loadClass(NAME).getMethod("main", String[].class).invoke(null, (Object) new String[0]);
        } finally {
            System.setOut(usual);
        }
        return said.toString().lines().toList();
    }

    private static void empty(Path room) throws IOException {
        try (var files = Files.list(room)) {
            for (Path file : files.toList()) {
                Files.delete(file);
            }
        }
        Files.delete(room);
    }
}
