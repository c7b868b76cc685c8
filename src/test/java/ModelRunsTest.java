import java.lang.reflect.InvocationTargetException;
import java.lang.reflect.Method;
import java.nio.file.Files;
import java.nio.file.Path;
import java.util.HashMap;
import java.util.List;
import java.util.Map;

/** All promises: the runs of src/test/data/runs.txt, whose first lines say how they are written. */
public final class ModelRunsTest {
    private static final Check CHECK = new Check();
    private static final Map<String, Method> METHODS = new HashMap<>();

    public static void main(String[] args) throws Exception {
        for (Method m : CryGorge.class.getMethods()) {
            METHODS.put(m.getName(), m);
        }
        List<String> lines = Files.readAllLines(Path.of("src/test/data/runs.txt"));
        CryGorge x = null;
        int made = 0;
        int number = 0;
        for (String line : lines) {
            number++;
            if (line.equals("new")) {
                x = new CryGorge();
                made++;
            } else if (!line.startsWith("#")) {
                play(x, number, line);
            }
        }
        CHECK.same("runs", made, 24);
        CHECK.end();
    }

    private static void play(CryGorge x, int number, String line) throws Exception {
        int split = line.lastIndexOf(" = ");
        String call = line.substring(0, split);
        String[] due = line.substring(split + 3).split(" ");
        String name = "line " + number + ": " + call;
        if (call.contains("|")) {
            int bar = call.indexOf('|');
            String text = plain(call.substring(bar + 1, call.length() - 1));
            Check.feed(x, text);
            CHECK.same(name, answer(x, call.substring(0, bar), text.length()), Integer.parseInt(due[0]));
            CHECK.same(name + ", fault()", x.fault(), Integer.parseInt(due[1]));
            return;
        }
        String[] parts = call.split(" ");
        Object[] given = new Object[parts.length - 1];
        for (int i = 0; i < given.length; i++) {
            given[i] = Integer.parseInt(parts[i + 1]);
        }
        CHECK.same(name, answer(x, parts[0], given), outcome(due[0]));
    }

    private static int outcome(String due) {
        switch (due) {
            case "NSE":
                return Check.NO_SUCH;
            case "IAE":
                return Check.ILLEGAL;
            default:
                return Integer.parseInt(due);
        }
    }

    private static int answer(CryGorge x, String name, Object... given) throws Exception {
        try {
            return (Integer) METHODS.get(name).invoke(x, given);
        } catch (InvocationTargetException e) {
            RuntimeException thrown = (RuntimeException) e.getCause();
            return Check.outcome(() -> {
                throw thrown;
            });
        }
    }

    private static String plain(String escaped) {
        StringBuilder text = new StringBuilder();
        for (int i = 0; i < escaped.length(); i++) {
            if (escaped.charAt(i) == '\\') {
                text.append((char) Integer.parseInt(escaped.substring(i + 2, i + 4), 16));
                i += 3;
            } else {
                text.append(escaped.charAt(i));
            }
        }
        return text.toString();
    }
}
