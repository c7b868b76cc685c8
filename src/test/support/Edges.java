import java.lang.reflect.InvocationTargetException;
import java.lang.reflect.Method;
import java.nio.file.Files;
import java.nio.file.Path;
import java.util.Map;
import java.util.TreeMap;

/** Runs all tests of a class that bear words of the document, and looks whether those stand there. */
final class Edges {
    private static final Path DOCUMENT = Path.of("../shared/DOC.md");

    private Edges() {
    }

    static void run(Class<?> tests) throws Exception {
        Check check = new Check();
        String document = Files.isReadable(DOCUMENT) ? plain(Files.readString(DOCUMENT)) : null;
        if (document == null) {
            System.out.println("no document is there to hold the words of the tests against");
        }
        Map<String, Method> named = testsOf(tests);
        check.same("tests of " + tests.getName(), Math.min(named.size(), 1), 1);
        for (Method test : named.values()) {
            check.begin(test.getName());
            String words = test.getAnnotation(Says.class).value();
            boolean stands = document == null || document.contains(plain(words));
            check.same("stands in the document: " + words, stands ? 1 : 0, 1);
            check.same("is named after a promise or a term", isNamed(test.getName()) ? 1 : 0, 1);
            runOne(test, check);
        }
        check.end();
    }

    private static void runOne(Method test, Check check) throws IllegalAccessException {
        try {
            test.invoke(null, check);
        } catch (InvocationTargetException e) {
            check.same("the test ends without " + e.getCause(), 1, 0);
        }
    }

    private static Map<String, Method> testsOf(Class<?> tests) {
        Map<String, Method> named = new TreeMap<>();
        for (Method method : tests.getDeclaredMethods()) {
            if (method.isAnnotationPresent(Says.class)) {
                method.setAccessible(true);
                named.put(method.getName(), method);
            }
        }
        return named;
    }

    private static boolean isNamed(String name) {
        return name.matches("(promise(0[1-9]|[12][0-9]|3[0-7])|term)[A-Z].*");
    }

    /** Lines of the document are broken where they are, and blocks of it are set in. */
    private static String plain(String text) {
        return text.replaceAll("[\\s`]+", " ").trim();
    }
}
