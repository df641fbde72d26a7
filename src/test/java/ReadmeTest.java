import java.io.File;
import java.lang.reflect.Method;
import java.lang.reflect.Modifier;
import java.net.URL;
import java.net.URLClassLoader;
import java.nio.file.Files;
import java.nio.file.Path;
import java.util.List;
import java.util.Set;
import java.util.TreeSet;
import java.util.regex.Matcher;
import java.util.regex.Pattern;
import java.util.stream.Stream;

/**
 * README.md says how to use the class and how to run its tests. Its Java is compiled as it stands
 * there, and each call that it shows is made: what stands behind it is the answer that is due.
 */
public final class ReadmeTest {
    private static final Path README = Path.of("README.md");
    private static final Pattern SHOWN = Pattern.compile("(hill\\.(\\w+)\\(.*\\));\\s+// (-?\\w+)\\b.*");

    private final String text;
    private final StringBuilder members = new StringBuilder();
    private final StringBuilder statements = new StringBuilder();
    private final Set<String> shown = new TreeSet<>();

    private ReadmeTest(String text) {
        this.text = text;
    }

    public static void main(String[] args) throws Exception {
        Checks.due("README.md is there", Files.isRegularFile(README), true);
        if (Files.isRegularFile(README)) {
            ReadmeTest test = new ReadmeTest(Files.readString(README));
            test.theCalls();
            test.theWholeFace();
            test.howToRunTheTests();
        }
        Checks.finish();
    }

    private void theCalls() throws Exception {
        Matcher block = Pattern.compile("(?s)```java\n(.*?)```").matcher(text);
        while (block.find()) {
            takeBlock(block.group(1));
        }
        List<?> answers = (List<?>) compiled().getMethod("answers").invoke(null);
        Checks.due("calls are shown", answers.size() >= 39, true);
        Checks.due("no more than an object's 512 calls", answers.size() <= 400, true);
        for (Object each : answers) {
            String[] row = (String[]) each;
            Checks.dueText(row[0], row[1], row[2]);
        }
    }

    /** A block is a method of one's own, or a run of calls that goes on with the same hill. */
    private void takeBlock(String block) {
        if (block.startsWith("static ")) {
            members.append(block);
            return;
        }
        for (String line : block.split("\n")) {
            Matcher call = SHOWN.matcher(line);
            boolean isCall = call.matches();
            Checks.due("the answer stands behind: " + line, line.startsWith("hill."), isCall);
            if (isCall) {
                shown.add(call.group(2));
                statements.append(dueAnswer(call.group(1), call.group(3)));
            } else {
                statements.append(line).append('\n');
            }
        }
    }

    private static String dueAnswer(String call, String answer) {
        String want = answer.equals("NONE") ? String.valueOf(BreathingHill.NONE) : answer;
        return "try { got = String.valueOf(" + call + "); } "
            + "catch (java.util.NoSuchElementException e) { got = \"NoSuchElementException\"; }\n"
            + "all.add(new String[] {\"" + call + "\", got, \"" + want + "\"});\n";
    }

    private Class<?> compiled() throws Exception {
        Path folder = Files.createTempDirectory("readme");
        Path source = folder.resolve("ReadmeCalls.java");
        Files.writeString(source, "public final class ReadmeCalls {\n" + members
            + "public static java.util.List<String[]> answers() {\n"
            + "java.util.List<String[]> all = new java.util.ArrayList<>();\nString got;\n"
            + statements + "return all;\n}\n}\n");
        String classes = System.getProperty("java.class.path");
        Process javac = new ProcessBuilder("javac", "-cp", classes, "-d", folder.toString(), source.toString())
            .inheritIO().start();
        Checks.due("the Java of README.md compiles", javac.waitFor(), 0);
        URL[] places = {folder.toUri().toURL()};
        Class<?> made = new URLClassLoader(places, ReadmeTest.class.getClassLoader()).loadClass("ReadmeCalls");
        try (Stream<Path> files = Files.list(folder)) {
            files.map(Path::toFile).forEach(File::delete);
        }
        Files.delete(folder);
        return made;
    }

    private void theWholeFace() {
        for (Method each : BreathingHill.class.getDeclaredMethods()) {
            if (Modifier.isPublic(each.getModifiers())) {
                Checks.due("README.md shows " + each.getName(), shown.contains(each.getName()), true);
            }
        }
    }

    private void howToRunTheTests() throws Exception {
        String tests = text.substring(Math.max(0, text.indexOf("\n## Tests\n")));
        Checks.due("README.md has a part on the tests", tests.startsWith("\n## Tests\n"), true);
        Checks.due("it tells the command", tests.contains("\n    .ci/run\n"), true);
        Checks.due("which is there", Files.isExecutable(Path.of(".ci/run")), true);
        Set<String> told = new TreeSet<>();
        Matcher name = Pattern.compile("`(\\w+Test)`").matcher(tests);
        while (name.find()) {
            told.add(name.group(1));
        }
        Set<String> there = new TreeSet<>();
        try (Stream<Path> files = Files.list(Path.of("src/test/java"))) {
            files.map(file -> file.getFileName().toString()).filter(file -> file.endsWith("Test.java"))
                .forEach(file -> there.add(file.replace(".java", "")));
        }
        Checks.dueText("the tests that it tells", told.toString(), there.toString());
    }
}
