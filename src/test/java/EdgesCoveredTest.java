import java.nio.file.Files;
import java.nio.file.Path;
import java.util.List;
import java.util.TreeSet;
import java.util.regex.Matcher;
import java.util.regex.Pattern;
import java.util.stream.Collectors;
import java.util.stream.Stream;

/** That each promise of the document, and each of its terms that has edges, has a test that is named after it. */
public final class EdgesCoveredTest {
    private static final String TERMS = "Gorge Law Work Heard Numbers Words Blanks Faults Steps Years Asked Lasts Ripe Plan Whose"
            + " Listen Interval Chord Way Round Ears Prices Shares Century Draw";

    public static void main(String[] args) throws Exception {
        Check check = new Check();
        TreeSet<String> names = namesOfTests();
        for (int promise = 1; promise <= 37; promise++) {
            isThere(check, names, String.format("promise%02d", promise));
        }
        for (String term : TERMS.split(" ")) {
            isThere(check, names, "term" + term);
        }
        check.end();
    }

    private static void isThere(Check check, TreeSet<String> names, String first) {
        String found = names.ceiling(first);
        check.same("a test named " + first + "..", found != null && found.startsWith(first) ? 1 : 0, 1);
    }

    private static TreeSet<String> namesOfTests() throws Exception {
        TreeSet<String> names = new TreeSet<>();
        Pattern test = Pattern.compile("@Says\\(.*\\)\\s+static void (\\w+)\\(Check c\\)");
        List<Path> files;
        try (Stream<Path> found = Files.list(Path.of("src/test/java"))) {
            files = found.collect(Collectors.toList());
        }
        for (Path file : files) {
            for (Matcher m = test.matcher(Files.readString(file)); m.find();) {
                names.add(m.group(1));
            }
        }
        return names;
    }
}
