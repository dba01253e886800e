import java.io.IOException;
import java.lang.reflect.Method;
import java.lang.reflect.Modifier;
import java.net.URL;
import java.net.URLClassLoader;
import java.nio.file.Files;
import java.nio.file.Path;
import java.util.ArrayList;
import java.util.List;
import java.util.Set;
import java.util.TreeSet;
import java.util.regex.Matcher;
import java.util.regex.Pattern;
import java.util.stream.Stream;

/** What README.md says is so: its calls give the answers that it names, and its command runs all the tests. */
public final class ReadmeTest {
    private static final Path README = Path.of("README.md");
    private static final Path COMMAND = Path.of(".ci/run");
    private static final Path TESTS = Path.of("src/test/java");
    private static final Pattern LINE = Pattern.compile("(?:(int|long|boolean) (\\w+) = )?(.+);\\s+// (.+)");
    private static final Pattern ANSWER = Pattern.compile("(-?\\d+|NONE|true|false): .+");
    private static final Pattern CALLED = Pattern.compile("ring\\.(\\w+)\\(");
    private static final Pattern TEST_NAME = Pattern.compile("`(\\w+Test)`");

    private final Checks checks = new Checks("ReadmeTest");
    private final List<String> shown = new ArrayList<>();
    private final List<String> due = new ArrayList<>();

    public static void main(String[] args) throws Exception {
        ReadmeTest test = new ReadmeTest();
        test.calls();
        test.everyMethodIsShown();
        test.command();
        test.namesOfTests();
        test.checks.finish();
    }

    /** The lines of all blocks of one language, in their order. */
    private static List<String> blocks(String language) throws IOException {
        List<String> lines = new ArrayList<>();
        boolean inside = false;
        for (String line : Files.readAllLines(README)) {
            if (line.startsWith("```")) {
                inside = line.equals("```" + language);
            } else if (inside) {
                lines.add(line);
            }
        }
        return lines;
    }

    private void calls() throws Exception {
        String source = sourceOf(blocks("java"));
        Path made = Files.createTempDirectory("readme");
        Path file = Files.writeString(made.resolve("ReadmeCalls.java"), source);
        int compiled = new ProcessBuilder("javac", "-encoding", "UTF-8", "--release", "17", "-classpath",
            System.getProperty("java.class.path"), "-d", made.toString(), file.toString()).inheritIO().start().waitFor();
        checks.same("javac of the calls that README.md shows", compiled, 0);
        if (compiled == 0) {
            compareAnswers(answersOf(made));
        }
        removeAll(made);
    }

    /** A class that makes the calls that are shown, and keeps the answer of each line that names one. */
    private String sourceOf(List<String> lines) {
        StringBuilder source = new StringBuilder();
        source.append("public final class ReadmeCalls {\n");
        source.append("public static void make(java.util.List<Object> answers) {\n");
        for (String line : lines) {
            Matcher parts = LINE.matcher(line);
            boolean isCall = parts.matches();
            boolean hasAnswer = isCall && ANSWER.matcher(parts.group(4)).matches();
            checks.yes("\"" + line + "\" names its answer or makes the object",
                hasAnswer || line.startsWith("LevelledRing ring = new LevelledRing("));
            if (!hasAnswer) {
                source.append(line).append('\n');
                continue;
            }
            String answer = parts.group(3);
            if (parts.group(2) != null) {
                source.append(parts.group(1)).append(' ').append(parts.group(2)).append(" = ").append(answer).append(";\n");
                answer = parts.group(2);
            }
            source.append("answers.add(").append(answer).append(");\n");
            shown.add(line);
            due.add(parts.group(4).substring(0, parts.group(4).indexOf(':')));
        }
        return source.append("}\n}\n").toString();
    }

    private static List<Object> answersOf(Path made) throws Exception {
        List<Object> answers = new ArrayList<>();
        try (URLClassLoader loader = new URLClassLoader(new URL[] {made.toUri().toURL()})) {
            loader.loadClass("ReadmeCalls").getMethod("make", List.class).invoke(null, answers);
        }
        return answers;
    }

    private void compareAnswers(List<Object> answers) {
        checks.same("how many answers README.md's calls gave", answers.size(), due.size());
        for (int at = 0; at < due.size() && at < answers.size(); at++) {
            String text = due.get(at).equals("NONE") ? String.valueOf(LevelledRing.NONE) : due.get(at);
            checks.yes("\"" + shown.get(at) + "\", which answered " + answers.get(at),
                String.valueOf(answers.get(at)).equals(text));
        }
    }

    private static void removeAll(Path directory) throws IOException {
        try (Stream<Path> files = Files.list(directory)) {
            for (Path file : files.toList()) {
                Files.delete(file);
            }
        }
        Files.delete(directory);
    }

    private void everyMethodIsShown() throws IOException {
        Set<String> called = new TreeSet<>();
        Matcher calls = CALLED.matcher(String.join("\n", blocks("java")));
        while (calls.find()) {
            called.add(calls.group(1));
        }
        for (Method method : LevelledRing.class.getDeclaredMethods()) {
            if (Modifier.isPublic(method.getModifiers())) {
                checks.yes("README.md shows " + method.getName(), called.contains(method.getName()));
            }
        }
    }

    private void command() throws IOException {
        checks.yes("README.md names the command .ci/run alone", blocks("sh").equals(List.of(COMMAND.toString())));
        checks.yes(".ci/run can be executed", Files.isExecutable(COMMAND));
    }

    /** The command runs what is named *Test; so every file that has a main method must be named so, here and there. */
    private void namesOfTests() throws IOException {
        Set<String> tests = new TreeSet<>();
        try (Stream<Path> files = Files.list(TESTS)) {
            for (Path file : files.toList()) {
                String name = file.getFileName().toString();
                boolean isTest = name.endsWith("Test.java");
                checks.yes(name + " is named *Test if and only if it has a main method",
                    isTest == Files.readString(file).contains("public static void main(String[] args)"));
                if (isTest) {
                    tests.add(name.substring(0, name.length() - ".java".length()));
                }
            }
        }
        Set<String> named = new TreeSet<>();
        for (String line : Files.readAllLines(README)) {
            Matcher names = TEST_NAME.matcher(line);
            while (line.startsWith("- ") && names.find()) {
                named.add(names.group(1));
            }
        }
        checks.yes("README.md's list names the tests that there are: " + tests, named.equals(tests));
    }
}
