import java.util.ArrayList;
import java.util.List;
import java.util.regex.Matcher;
import java.util.regex.Pattern;

/** A text such as README.md: its blocks, and the calls that they show with their answers. */
final class Readme {
    private static final Pattern BLOCK = Pattern.compile("(?m)^```(\\w*)\n((?:.*\n)*?)```$");
    private static final Pattern SPAN = Pattern.compile("`([^`]+)`");
    private static final Pattern MADE = Pattern.compile("CryGorge \\w+ = new CryGorge\\(\\);");
    private static final Pattern SHOWN = Pattern.compile("(?s)(\\w+\\.(\\w+)\\(.*\\));\\s*// (-?\\d+|throws \\w+)(?:: [^\n]+)?");

    /** A statement of a block; without an answer, if it only makes an object. */
    record Statement(String code, String name, String answer) {
    }

    private final String text;
    final List<String> members = new ArrayList<>();
    final List<Statement> statements = new ArrayList<>();
    final List<String> unclear = new ArrayList<>();

    Readme(String text) {
        this.text = text;
        for (String block : blocks("java")) {
            if (block.matches("(?s)(/\\*\\*.*?\\*/\\s*)?static .*")) {
                members.add(block);
            } else {
                readStatements(block);
            }
        }
    }

    List<String> blocks(String language) {
        List<String> found = new ArrayList<>();
        for (Matcher m = BLOCK.matcher(text); m.find();) {
            if (m.group(1).equals(language)) {
                found.add(m.group(2));
            }
        }
        return found;
    }

    /** What stands between backticks in its prose. */
    List<String> spans() {
        List<String> found = new ArrayList<>();
        for (Matcher m = SPAN.matcher(BLOCK.matcher(text).replaceAll("")); m.find();) {
            found.add(m.group(1));
        }
        return found;
    }

    /** A statement may go over several lines; behind its end stands its answer. */
    private void readStatements(String block) {
        String begun = "";
        for (String line : block.split("\n")) {
            begun = (begun + "\n" + line).trim();
            if (readStatement(begun)) {
                begun = "";
            }
        }
        if (!begun.isEmpty()) {
            unclear.add(begun);
        }
    }

    private boolean readStatement(String code) {
        Matcher m = SHOWN.matcher(code);
        if (m.matches() && !m.group(1).contains("//") && !m.group(1).contains(";\n")) {
            statements.add(new Statement(m.group(1), m.group(2), m.group(3)));
            return true;
        }
        if (MADE.matcher(code).matches()) {
            statements.add(new Statement(code, "", ""));
            return true;
        }
        return code.isEmpty();
    }

    /** A program that makes all calls as they stand in the text, and ends with 1 if an answer is another one. */
    String program(String name) {
        StringBuilder code = new StringBuilder("public final class " + name + " {\n");
        code.append("static int wrong;\n");
        code.append("static void due(String call, String got, String told) {\n");
        code.append("if (!got.equals(told)) { wrong++; System.out.println(call + \": \" + got + \", told is \" + told); } }\n");
        for (String member : members) {
            code.append(member);
        }
        code.append("public static void main(String[] args) {\nString got;\n");
        for (Statement statement : statements) {
            code.append(statement.answer.isEmpty() ? statement.code + "\n" : checked(statement));
        }
        return code.append("System.exit(wrong > 0 ? 1 : 0);\n}\n}\n").toString();
    }

    private static String checked(Statement statement) {
        String call = statement.code.replaceAll("\\s+", " ").replace("\\", "\\\\").replace("\"", "\\\"");
        return "try { got = Integer.toString(" + statement.code + "); }\n"
                + "catch (RuntimeException e) { got = \"throws \" + e.getClass().getSimpleName(); }\n"
                + "due(\"" + call + "\", got, \"" + statement.answer + "\");\n";
    }
}
