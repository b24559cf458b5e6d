import java.io.File;
import java.io.IOException;
import java.lang.reflect.Method;
import java.lang.reflect.Modifier;
import java.nio.file.Files;
import java.nio.file.Path;
import java.util.ArrayList;
import java.util.List;
import java.util.Set;
import java.util.TreeSet;
import java.util.regex.Matcher;
import java.util.regex.Pattern;
import java.util.stream.Stream;

/** What README.md shows is done as it is written there: its pieces of use, its commands, and the tests that it names. */
public final class ReadmeTest {
    private static final Path PAGE = Path.of("README.md");
    private static final String ALL_TESTS = ".ci/run";
    private static final Pattern FENCED = Pattern.compile("(?ms)^```(\\w+)\n(.*?)^```$");
    private static final Pattern ANSWERED =
            Pattern.compile("(?:(?:int|long) (\\w+) = )?(\\S.*); *// = (-?\\d+)(?:: .*)?");
    private static final Pattern TEST_NAME = Pattern.compile("\\b\\w+Test\\b");

    private static int wrong = 0;

    private static void fault(String what) {
        wrong++;
        System.out.println(what);
    }

    private static List<String> pieces(String page, String language) {
        List<String> found = new ArrayList<>();
        Matcher piece = FENCED.matcher(page);
        while (piece.find()) {
            if (piece.group(1).equals(language)) {
                found.add(piece.group(2));
            }
        }
        return found;
    }

    /** The pieces as one program, every told answer being looked at; a line without one stays as it is. */
    private static String programOf(List<String> lines) {
        StringBuilder program = new StringBuilder("final class ReadmeUse {\n    static int wrong = 0;\n"
                + "    static void due(String line, long got, long want) {\n"
                + "        if (got != want) {\n            wrong++;\n"
                + "            System.out.println(line + \" answered \" + got);\n        }\n    }\n"
                + "    public static void main(String[] args) {\n");
        for (String line : lines) {
            program.append(checked(line)).append('\n');
        }
        return program + "        System.exit(wrong == 0 ? 0 : 1);\n    }\n}\n";
    }

    private static String checked(String line) {
        Matcher answered = ANSWERED.matcher(line);
        if (!answered.matches()) {
            return line;
        }
        String quoted = "\"" + line.replace("\\", "\\\\").replace("\"", "\\\"") + "\"";
        String name = answered.group(1);
        String asked = name == null ? answered.group(2) : name;
        String due = "due(" + quoted + ", " + asked + ", " + answered.group(3) + "L);";
        return name == null ? due : line + "\n" + due;
    }

    private static void use(String page) throws IOException, InterruptedException {
        List<String> lines = new ArrayList<>();
        for (String piece : pieces(page, "java")) {
            lines.addAll(piece.lines().toList());
        }
        for (String line : lines) {
            if (line.contains("// =") && !ANSWERED.matcher(line).matches()) {
                fault("its answer can't be read: " + line);
            }
        }
        for (Method m : WolfVillage.class.getDeclaredMethods()) {
            String call = "village." + m.getName() + "(";
            if (Modifier.isPublic(m.getModifiers()) && lines.stream().noneMatch(l -> l.contains(call))) {
                fault("README.md does not show " + m.getName());
            }
        }
        Path made = Files.createTempDirectory("readme");
        Path source = made.resolve("ReadmeUse.java");
        Files.writeString(source, programOf(lines));
        String classes = System.getProperty("java.class.path");
        boolean compiled = runs("javac", "-encoding", "UTF-8", "-cp", classes, "-d", made.toString(), source.toString());
        if (!compiled || !runs("java", "-cp", made + File.pathSeparator + classes, "ReadmeUse")) {
            fault("the use in README.md does not run as it is written");
        }
        remove(made);
    }

    private static void remove(Path directory) throws IOException {
        try (Stream<Path> inside = Files.list(directory)) {
            for (Path file : inside.toList()) {
                Files.delete(file);
            }
        }
        Files.delete(directory);
    }

    /** All tests are run by what runs this one; the other commands are run here. */
    private static void commands(String page) throws IOException, InterruptedException {
        List<String> shown = pieces(page, "sh");
        if (!shown.contains(ALL_TESTS + "\n") || !Files.isExecutable(Path.of(ALL_TESTS))) {
            fault("README.md does not show how all tests are run");
        }
        if (shown.size() < 2) {
            fault("README.md does not show how one test is run");
        }
        for (String piece : shown) {
            if (!piece.contains(ALL_TESTS) && !runs("sh", "-e", "-c", piece)) {
                fault("a command in README.md fails: " + piece);
            }
        }
    }

    private static boolean runs(String... command) throws IOException, InterruptedException {
        Process process = new ProcessBuilder(command).redirectErrorStream(true).start();
        String told = new String(process.getInputStream().readAllBytes());
        boolean well = process.waitFor() == 0;
        if (!well) {
            System.out.print(told);
        }
        return well;
    }

    private static void names(String page) throws IOException {
        Set<String> named = new TreeSet<>();
        Matcher name = TEST_NAME.matcher(page);
        while (name.find()) {
            named.add(name.group());
        }
        Set<String> there = new TreeSet<>();
        try (Stream<Path> files = Files.list(Path.of("src/test/java"))) {
            for (Path file : files.toList()) {
                String test = file.getFileName().toString().replace(".java", "");
                if (test.endsWith("Test")) {
                    there.add(test);
                }
            }
        }
        if (!named.equals(there)) {
            fault("README.md names " + named + ", there are " + there);
        }
    }

    public static void main(String[] args) throws IOException, InterruptedException {
        String page = Files.readString(PAGE);
        use(page);
        commands(page);
        names(page);
        System.out.println(wrong == 0 ? "README.md is as due" : wrong + " faults");
        if (wrong != 0) {
            System.exit(1);
        }
    }
}
