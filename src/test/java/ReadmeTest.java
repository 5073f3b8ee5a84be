import java.io.ByteArrayOutputStream;
import java.io.IOException;
import java.io.PrintStream;
import java.net.URL;
import java.net.URLClassLoader;
import java.nio.file.Files;
import java.nio.file.Path;
import java.util.ArrayList;
import java.util.List;
import java.util.Set;
import java.util.TreeSet;
import java.util.regex.Matcher;
import java.util.regex.Pattern;
import java.util.spi.ToolProvider;
import java.util.stream.Stream;

/** README.md: its code compiles and answers what stands behind each call; no call of the face and no test is missing in it. */
public final class ReadmeTest extends Due {
    private static final Path README = Path.of("README.md");
    private static final Path DOCUMENT = Path.of("../shared/DOC.md");
    private static final Path TESTS = Path.of("src/test/java");
    private static final Pattern BLOCK = Pattern.compile("(?m)^```(\\w+)\n((?:(?!```).*\n)*)```$");
    private static final Pattern CALL = Pattern.compile("(x\\.\\w+\\(.*\\)); *// (-?\\d+)(?::.*)?");

    private static List<String> blocks(String readme, String language) {
        List<String> blocks = new ArrayList<>();
        Matcher m = BLOCK.matcher(readme);
        while (m.find()) {
            if (m.group(1).equals(language)) {
                blocks.add(m.group(2));
            }
        }
        return blocks;
    }

    /** Each call with what is due becomes a line that prints where it answers something else. */
    private static String asked(String block) {
        StringBuilder code = new StringBuilder();
        for (String line : block.split("\n")) {
            Matcher call = CALL.matcher(line);
            due("a call without what it answers: " + line, line.startsWith("x.") && !call.matches() ? 1 : 0, 0);
            code.append(call.matches() ? "due(\"" + call.group(1) + "\", " + call.group(1) + ", " + call.group(2) + "L);" : line).append('\n');
        }
        return code.toString();
    }

    private static String program(List<String> blocks) {
        StringBuilder code = new StringBuilder("public final class Asked {\n"
            + "static void due(String call, long got, long want) {\n"
            + "if (got != want) System.out.println(call + \" answers \" + got + \", README.md says \" + want);\n}\n"
            + "public static void main(String[] args) {\n");
        for (String block : blocks) {
            code.append("{\n").append(asked(block)).append("}\n");
        }
        return code.append("}\n}\n").toString();
    }

    /** What a program prints; it is compiled as README.md says, with the class's source. */
    private static String printed(String name, String code) throws Exception {
        Path folder = Files.createTempDirectory("readme");
        Path source = Files.writeString(folder.resolve(name + ".java"), code);
        int failed = ToolProvider.findFirst("javac").orElseThrow().run(System.out, System.out, "-encoding", "UTF-8", "-d", folder.toString(),
            "src/main/java/DraughtsTake.java", source.toString());
        due(name + " does not compile", failed, 0);
        PrintStream out = System.out;
        ByteArrayOutputStream bytes = new ByteArrayOutputStream();
        try (URLClassLoader loader = new URLClassLoader(new URL[] {folder.toUri().toURL()}, ClassLoader.getPlatformClassLoader())) {
            System.setOut(new PrintStream(bytes, true));
            loader.loadClass(name).getMethod("main", String[].class).invoke(null, (Object) new String[0]);
        } finally {
            System.setOut(out);
            remove(folder);
        }
        return bytes.toString().replace(System.lineSeparator(), "\n");
    }

    private static void remove(Path folder) throws IOException {
        try (Stream<Path> files = Files.list(folder)) {
            for (Path file : files.toList()) {
                Files.delete(file);
            }
        }
        Files.delete(folder);
    }

    private static void code(String readme) throws Exception {
        List<String> calls = blocks(readme, "java");
        List<String> prints = blocks(readme, "text");
        due("one program's print is told", prints.size(), 1);
        due("the program stands first", calls.get(0).contains("class Yours") ? 1 : 0, 1);
        String got = printed("Yours", calls.get(0));
        due("Yours prints " + got + "instead of " + prints.get(0), got.equals(prints.get(0)) ? 1 : 0, 1);
        String wrong = printed("Asked", program(calls.subList(1, calls.size())));
        due(wrong, wrong.isEmpty() ? 0 : 1, 0);
    }

    private static void nothingIsMissing(String readme) throws IOException {
        Set<String> shown = new TreeSet<>();
        for (String block : blocks(readme, "java")) {
            Matcher m = Pattern.compile("x\\.(\\w+)\\(").matcher(block);
            while (m.find()) {
                shown.add(m.group(1));
            }
        }
        Set<String> face = new TreeSet<>();
        Matcher m = Pattern.compile("    public (?:int|long) (\\w+)\\(").matcher(Files.readString(DOCUMENT));
        while (m.find()) {
            face.add(m.group(1));
        }
        due("shown are " + shown + ", the document's face has " + face, shown.equals(face) ? 1 : 0, 1);
        try (Stream<Path> tests = Files.list(TESTS)) {
            for (Path test : tests.toList()) {
                due(test + " is not told", readme.contains("| `src/test/java/" + test.getFileName() + "` |") ? 1 : 0, 1);
            }
        }
    }

    public static void main(String[] args) throws Exception {
        part("README.md");
        String readme = Files.readString(README);
        code(readme);
        nothingIsMissing(readme);
        end("all that README.md says is so");
    }
}
