import java.io.File;
import java.io.IOException;
import java.lang.reflect.InvocationTargetException;
import java.lang.reflect.Method;
import java.lang.reflect.Modifier;
import java.net.URL;
import java.net.URLClassLoader;
import java.nio.file.Files;
import java.nio.file.Path;
import java.util.ArrayList;
import java.util.Comparator;
import java.util.List;
import java.util.Set;
import java.util.TreeSet;
import java.util.regex.Matcher;
import java.util.regex.Pattern;
import java.util.stream.Collectors;
import java.util.stream.Stream;
import javax.tools.ToolProvider;

/**
 * What README.md shows is so: its examples compile and answer as it says, its commands run, it names every
 * test. A line of an example with an answer is <code>call; // answer: why</code>, the answer being a
 * number or the name of a finding.
 */
public final class ReadmeTest {
    private static final Path README = Path.of("README.md");
    private static final Path TESTS = Path.of("src/test/java");
    private static final String WHOLE_RUN = ".ci/run";
    private static final Pattern ANSWERED =
        Pattern.compile("(?:int (\\w+) = )?(hills\\.(\\w+)\\(.*\\)); *// (-?\\d+|[A-Z]+): .+");

    private static final Set<String> shown = new TreeSet<>();
    private static int asked = 0;
    private static int wrong = 0;

    public static void main(String[] args) throws Exception {
        Path room = Files.createTempDirectory("readme");
        try {
            examples(room);
            commands(room);
            findings();
            namedTests();
        } finally {
            remove(room);
        }
        System.out.println(asked + " answers, " + wrong + " not as due");
        if (wrong != 0) {
            System.exit(1);
        }
    }

    /** Called by the examples, too, which another class loader has: so it is public. */
    public static void due(String what, Object got, Object want) {
        asked++;
        if (!String.valueOf(got).equals(String.valueOf(want))) {
            wrong++;
            System.out.println("README.md: " + what + " is " + got + ", due is " + want);
        }
    }

    private static List<String> blocks(String language) throws IOException {
        List<String> blocks = new ArrayList<>();
        Matcher block = Pattern.compile("(?ms)^```" + language + "\n(.*?)^```$").matcher(Files.readString(README));
        while (block.find()) {
            blocks.add(block.group(1));
        }
        return blocks;
    }

    private static void examples(Path room) throws Exception {
        StringBuilder source = new StringBuilder("public final class Examples {\n");
        int number = 0;
        for (String block : blocks("java")) {
            source.append("    public static void example").append(number).append("() {\n");
            block.lines().forEach(line -> source.append(asked(line)).append('\n'));
            source.append("    }\n");
            number++;
        }
        source.append("}\n");
        due("calls that no example shows", missing(face(), shown), "[]");
        Path file = Files.writeString(room.resolve("Examples.java"), source);
        String classes = System.getProperty("java.class.path");
        int faults = ToolProvider.getSystemJavaCompiler()
            .run(null, null, null, "-cp", classes, "-d", room.toString(), file.toString());
        due("javac of the examples", faults, 0);
        if (faults == 0) {
            play(room, number);
        }
    }

    /** A line of an example; where an answer is told, it is asked for. */
    private static String asked(String line) {
        Matcher answered = ANSWERED.matcher(line);
        if (!answered.matches()) {
            boolean isBare = line.startsWith("hills.") || line.startsWith("int ");
            due("a call without an answer: " + line, isBare, false);
            return line;
        }
        shown.add(answered.group(3));
        String call = answered.group(2);
        String name = answered.group(1);
        String kept = name == null ? "" : "int " + name + " = " + call + "; ";
        String text = call.replace("\\", "\\\\").replace("\"", "\\\"");
        return kept + "ReadmeTest.due(\"" + text + "\", " + (name == null ? call : name) + ", "
            + Script.number(answered.group(4)) + "L);";
    }

    private static Set<String> face() {
        return Stream.of(WeatherGlaze.class.getDeclaredMethods())
            .filter(m -> Modifier.isPublic(m.getModifiers()))
            .map(Method::getName)
            .collect(Collectors.toCollection(TreeSet::new));
    }

    private static Set<String> missing(Set<String> wanted, Set<String> there) {
        Set<String> missing = new TreeSet<>(wanted);
        missing.removeAll(there);
        return missing;
    }

    private static void play(Path room, int examples) throws Exception {
        try (URLClassLoader loader = new URLClassLoader(new URL[] {room.toUri().toURL()})) {
            Class<?> played = loader.loadClass("Examples");
            for (int i = 0; i < examples; i++) {
                try {
                    played.getMethod("example" + i).invoke(null);
                } catch (InvocationTargetException e) {
                    due("example " + i, e.getCause(), "without an exception");
                }
            }
        }
    }

    /** .ci/run itself isn't run here, as it runs this test. */
    private static void commands(Path room) throws IOException, InterruptedException {
        List<String> blocks = blocks("sh");
        due("shows " + WHOLE_RUN, blocks.contains(WHOLE_RUN + "\n"), true);
        due(WHOLE_RUN + " can be run", Files.isExecutable(Path.of(WHOLE_RUN)), true);
        for (String block : blocks) {
            if (block.contains(WHOLE_RUN)) {
                continue;
            }
            File output = room.resolve("output").toFile();
            ProcessBuilder shell = new ProcessBuilder("sh", "-e", "-c", block);
            shell.environment().put("TMPDIR", room.toString());
            int exit = shell.redirectErrorStream(true).redirectOutput(output).start().waitFor();
            due("exit code of\n" + block + Files.readString(output.toPath()), exit, 0);
        }
    }

    private static void findings() throws IOException {
        List<String> names = new ArrayList<>();
        List<String> numbers = new ArrayList<>();
        for (String line : Files.readAllLines(README)) {
            if (line.startsWith("| BEYOND") || line.startsWith("| -1000001")) {
                List<String> cells = List.of(line.substring(2, line.length() - 2).split(" \\| "));
                (line.startsWith("| B") ? names : numbers).addAll(cells);
            }
        }
        due("names of findings", names, Script.FINDINGS);
        due("numbers of findings", numbers, names.stream().map(Script::number).toList());
    }

    private static void namedTests() throws IOException {
        Set<String> named = new TreeSet<>();
        Matcher item = Pattern.compile("(?m)^- `(\\w+)`: ").matcher(Files.readString(README));
        while (item.find()) {
            named.add(item.group(1) + ".java");
        }
        try (Stream<Path> files = Files.list(TESTS)) {
            due("tests that it names", named, files.map(f -> f.getFileName().toString()).sorted().toList());
        }
    }

    private static void remove(Path room) throws IOException {
        try (Stream<Path> all = Files.walk(room)) {
            all.sorted(Comparator.reverseOrder()).map(Path::toFile).forEach(File::delete);
        }
    }
}
