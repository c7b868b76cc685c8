import java.nio.file.Files;
import java.nio.file.Path;
import java.util.regex.Matcher;
import java.util.regex.Pattern;

/** What of ../shared/LANGUAGE.md a look at the source's words can tell. */
public final class LanguageTest {
    private static final Check CHECK = new Check();

    public static void main(String[] args) throws Exception {
        String source = Files.readString(Path.of("src/main/java/CryGorge.java"));
        String code = source.replaceAll("(?s)/\\*.*?\\*/", "").replaceAll("//[^\n]*", "").replaceAll("\"[^\"\n]*\"", "\"\"");
        String[] never = {"->", "::", "\\w+Exact\\b", "\\bfinally\\b", "\\bsynchronized\\b", "\\bassert\\b", "\\bcatch\\b",
            "\\bpackage\\b", "\\bprotected\\b", "\\bstatic\\s*\\{", "\\bdouble\\b", "\\bfloat\\b", "\\bSystem\\.(?!arraycopy)",
            "\\bstatic (?!final\\b)\\w+(\\[\\])* \\w+ *[=;]", "\\bthrow new (?!IllegalArgumentException|NoSuchElementException)",
            "\\bimport (?!java\\.util\\.NoSuchElementException;)", "\\bnew \\w+\\(\\)\\s*\\{"};
        for (String words : never) {
            Matcher m = Pattern.compile(words).matcher(code);
            CHECK.same("never " + words + (m.find() ? ": " + m.group() : ""), m.reset().find() ? 1 : 0, 0);
        }
        int classes = 0;
        for (Matcher m = Pattern.compile("\\bclass \\w+").matcher(code); m.find();) {
            classes++;
        }
        CHECK.same("some twelve classes at most", Math.max(classes, 12), 12);
        methods(code);
        CHECK.end();
    }

    /** The seven parameters of rule 11 (would has eight by the document) and its sixty lines. */
    private static void methods(String code) {
        Matcher m = Pattern.compile("\n( +)(?:\\w+ )+(\\w+)\\(([^()]*)\\)[^;{}]*\\{\n(.*?)\n\\1\\}", Pattern.DOTALL).matcher(code);
        int found = 0;
        while (m.find()) {
            if (m.group(2).equals("for") || m.group(2).equals("if")) {
                continue;
            }
            found++;
            int given = m.group(3).isBlank() ? 0 : m.group(3).split(",").length;
            int most = m.group(2).equals("would") ? 8 : 7;
            CHECK.same("parameters of " + m.group(2), Math.max(given, most), most);
            CHECK.same("lines of " + m.group(2), Math.max(m.group(4).split("\n").length, 60), 60);
        }
        CHECK.same("methods found", Math.min(found, 100), 100);
    }
}
