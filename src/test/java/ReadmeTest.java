import java.lang.reflect.Method;
import java.lang.reflect.Modifier;
import java.nio.file.Files;
import java.nio.file.Path;
import java.util.List;
import java.util.Set;
import java.util.TreeSet;
import java.util.stream.Collectors;
import java.util.stream.Stream;

/** That README.md shows calls with the answers that they have, and tells the way in which the tests are run. */
public final class ReadmeTest {
    private static final Check CHECK = new Check();
    private static final Path README = Path.of("README.md");
    private static final Path SOURCE = Path.of("src/main/java/CryGorge.java");
    private static final String PASSES = "if (new CryGorge().told(0) != 0) System.exit(1);";
    private static final String FAILS = "System.exit(1);";
    private static final String DOES_NOT_COMPILE = "new CryGorge().none();";

    private final Path room;
    private final Readme readme;

    private ReadmeTest(Path room) throws Exception {
        this.room = room;
        readme = new Readme(Files.readString(README));
    }

    public static void main(String[] args) throws Exception {
        Path room = Files.createTempDirectory("readme");
        try {
            new ReadmeTest(room).run();
        } finally {
            Shell.delete(room);
        }
        CHECK.end();
    }

    private void run() throws Exception {
        answersAreThoseThatItTells();
        wrongAnswersAreSeen();
        callsWithoutAnswersAreSeen();
        eachCallOfTheFaceIsShown();
        whatItNamesIsThere();
        itsWayRunsTheTests();
    }

    private void answersAreThoseThatItTells() throws Exception {
        CHECK.begin("answersAreThoseThatItTells");
        CHECK.alike("what is shown without an answer", readme.unclear.toString(), "[]");
        Shell.Ended ended = played(readme, "Played");
        CHECK.alike("what README.md tells otherwise", ended.printed(), "");
        CHECK.same("its calls", ended.code(), 0);
    }

    /** Else a README.md of which nothing is run would be found right. */
    private void wrongAnswersAreSeen() throws Exception {
        CHECK.begin("wrongAnswersAreSeen");
        Readme wrong = new Readme("```java\nCryGorge x = new CryGorge();\nx.told(3);  // 21: right\nx.told(4);  // 4: 3 is right\n"
                + "x.told(11);  // 0: it throws\nx.told(\n    0);  // throws NoSuchElementException\n```\n");
        Shell.Ended ended = played(wrong, "Wrong");
        CHECK.same("calls with wrong answers", ended.code(), 1);
        CHECK.alike("the answers", ended.printed(), "x.told(4): 3, told is 4\nx.told(11): throws IllegalArgumentException, told is 0\n"
                + "x.told( 0): 0, told is throws NoSuchElementException\n");
    }

    private void callsWithoutAnswersAreSeen() {
        CHECK.begin("callsWithoutAnswersAreSeen");
        for (String line : new String[] {"x.told(3);", "x.told(3);  // as told", "x.told(3);\nx.told(4);  // 3", "int n = x.told(3);  // 21"}) {
            Readme unclear = new Readme("```java\n" + line + "\n```\n");
            CHECK.same(line, unclear.unclear.size(), 1);
        }
    }

    private void eachCallOfTheFaceIsShown() {
        CHECK.begin("eachCallOfTheFaceIsShown");
        Set<String> shown = new TreeSet<>();
        for (Readme.Statement statement : readme.statements) {
            shown.add(statement.name());
        }
        for (String name : face()) {
            CHECK.same(name, shown.contains(name) ? 1 : 0, 1);
        }
    }

    private static Set<String> face() {
        Set<String> names = new TreeSet<>();
        for (Method method : CryGorge.class.getDeclaredMethods()) {
            if (Modifier.isPublic(method.getModifiers())) {
                names.add(method.getName());
            }
        }
        return names;
    }

    private Shell.Ended played(Readme shown, String name) throws Exception {
        Path file = room.resolve(name + ".java");
        Path classes = room.resolve(name);
        Shell.write(file, shown.program(name));
        Shell.Ended compiled = Shell.run(Path.of("."), "javac", "-encoding", "UTF-8", "-d", classes.toString(), SOURCE.toString(), file.toString());
        if (compiled.code() != 0) {
            return compiled;
        }
        return Shell.run(room, "java", "-cp", classes.toString(), name);
    }

    /** Files, tests, calls and words of the document. */
    private void whatItNamesIsThere() throws Exception {
        CHECK.begin("whatItNamesIsThere");
        Set<String> names = face();
        names.addAll(List.of("java", "javac"));
        StringBuilder words = new StringBuilder(Files.readString(Path.of("../shared/DOC.md")));
        for (String directory : new String[] {"src/test/java", "src/test/support"}) {
            for (Path file : filesIn(directory)) {
                names.add(file.getFileName().toString().replace(".java", ""));
                words.append(Files.readString(file));
            }
        }
        for (String span : readme.spans()) {
            boolean isPath = span.contains("/");
            boolean there = isPath ? Files.exists(Path.of(span)) : names.contains(span) || words.indexOf(span) >= 0;
            CHECK.same(span, there ? 1 : 0, 1);
        }
    }

    private static List<Path> filesIn(String directory) throws Exception {
        try (Stream<Path> found = Files.list(Path.of(directory))) {
            return found.collect(Collectors.toList());
        }
    }

    /** Its commands are given as they stand there, in a project whose tests are known to pass or to fail. */
    private void itsWayRunsTheTests() throws Exception {
        CHECK.begin("itsWayRunsTheTests");
        List<String> ways = readme.blocks("sh");
        CHECK.same("ways in which README.md tells that tests are run", ways.size(), 1);
        for (String way : ways) {
            tests(way, PASSES, PASSES, 0);
            tests(way, FAILS, PASSES, 1);
            tests(way, PASSES, FAILS, 1);
            tests(way, DOES_NOT_COMPILE, DOES_NOT_COMPILE, 1);
        }
    }

    private void tests(String way, String own, String shared, int due) throws Exception {
        Path place = Files.createTempDirectory(room, "tests");
        Path project = place.resolve("project");
        Shell.copy(Path.of(".ci/run"), project.resolve(".ci/run"));
        Shell.copy(SOURCE, project.resolve(SOURCE));
        Shell.write(project.resolve("src/test/support/Told.java"), "class Told { static void told(String name) { System.out.println(name + \" runs\"); } }");
        Path first = project.resolve("src/test/java");
        Path second = place.resolve("shared/tests");
        write(first, "OwnTest", "Told.told(\"OwnTest\"); " + own);
        write(first, "PassingTest", "Told.told(\"PassingTest\"); " + PASSES);
        write(second, "SharedRuns", "System.out.println(\"SharedRuns runs\"); " + shared);
        Shell.Ended ended = Shell.run(project, "sh", "-c", way);
        String tests = "tests \"" + own + "\" and \"" + shared + "\"";
        CHECK.same(tests, ended.code(), due);
        looked(tests, ended.printed(), "OwnTest", own);
        looked(tests, ended.printed(), "PassingTest", PASSES);
        looked(tests, ended.printed(), "SharedRuns", shared);
    }

    private static void write(Path directory, String name, String code) throws Exception {
        Shell.write(directory.resolve(name + ".java"),
                "public final class " + name + " { public static void main(String[] args) { " + code + " } }");
    }

    private static void looked(String tests, String printed, String name, String code) {
        boolean runs = printed.contains(name + " runs\n");
        boolean passed = printed.contains(name + ": passed\n");
        CHECK.same(name + " runs, of " + tests, runs ? 1 : 0, code.equals(DOES_NOT_COMPILE) ? 0 : 1);
        CHECK.same(name + " is told as passed, of " + tests, passed ? 1 : 0, code.equals(PASSES) ? 1 : 0);
    }
}
