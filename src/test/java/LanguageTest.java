import java.io.IOException;
import java.nio.file.Files;
import java.nio.file.Path;
import java.util.List;
import java.util.regex.Matcher;
import java.util.regex.Pattern;

/** Some rules of LANGUAGE.md that can be seen in the text of the class; .ci/run runs it at the project's root. */
public final class LanguageTest {
    private static final int MOST_LINES_OF_A_METHOD = 60;
    private static final int MOST_PARAMETERS = 7;
    private static final int MOST_CLASSES = 12;
    private static final int MOST_FIELDS = 20;

    public static void main(String[] args) throws IOException {
        Check check = new Check("Language");
        String whole = Files.readString(Path.of("src/main/java/IceLand.java"));
        for (int i = 0; i < whole.length(); i++) {
            check.same("sign " + i, whole.charAt(i) < 128, true);
        }
        String code = withoutCommentsAndTexts(whole);
        holdsNone(check, code);
        libraryIsKnown(check, code);
        exceptionsAreKnown(check, code);
        staticsAreFinal(check, code);
        sizes(check, code);
        check.end();
    }

    private static String withoutCommentsAndTexts(String whole) {
        return whole.replaceAll("(?s)/\\*.*?\\*/", "").replaceAll("//[^\n]*", "").replaceAll("\"[^\"\n]*\"", "TEXT");
    }

    private static void holdsNone(Check check, String code) {
        List<String> banned = List.of("^package\\b", "^import\\b", "->", "::", "\\bcatch\\b", "\\btry\\b",
            "\\bfinally\\b", "\\bsynchronized\\b", "\\bassert\\b", "\\binstanceof\\b", "static\\s*\\{", "Exact\\s*\\(",
            "\\bequals\\b", "\\bhashCode\\b", "\\btoString\\b", "TEXT\\s*\\+", "\\+\\s*TEXT", "\\bnative\\b",
            "\\bvolatile\\b", "\\bdouble\\b", "\\bfloat\\b", "\\bwhile\\b", "\\bprotected\\b", "@");
        for (String ban : banned) {
            Matcher found = Pattern.compile(ban, Pattern.MULTILINE).matcher(code);
            if (found.find()) {
                check.wrong("the class holds " + found.group());
            }
        }
    }

    private static void libraryIsKnown(Check check, String code) {
        Matcher call = Pattern.compile("\\b(Math|System|Integer|Long|Arrays)\\.(\\w+)").matcher(code);
        while (call.find()) {
            boolean known = List.of("Math.floorDiv", "Math.min", "Math.max", "Math.abs", "System.arraycopy")
                .contains(call.group());
            check.same("use of " + call.group(), known, true);
        }
        Matcher type = Pattern.compile("\\b[A-Z]\\w*[a-z]\\w*").matcher(code);
        while (type.find()) {
            boolean known = code.contains("class " + type.group() + " {") || List.of("Math", "System",
                "IndexOutOfBoundsException", "IllegalArgumentException", "IllegalStateException")
                .contains(type.group());
            check.same("use of " + type.group(), known, true);
        }
    }

    private static void exceptionsAreKnown(Check check, String code) {
        Matcher thrown = Pattern.compile("throw new (\\w+)\\((.*?)\\);").matcher(code);
        int count = 0;
        while (thrown.find()) {
            count++;
            check.same("throw of " + thrown.group(1), List.of("IndexOutOfBoundsException", "IllegalArgumentException",
                "IllegalStateException").contains(thrown.group(1)), true);
            check.same("text of " + thrown.group(), thrown.group(2), "TEXT");
        }
        check.same("every throw is a new one", code.split("\\bthrow\\b", -1).length - 1, count);
    }

    private static void staticsAreFinal(Check check, String code) {
        for (String line : code.split("\n")) {
            boolean field = line.matches(".*\\bstatic\\b.*[=;]\\s*.*") && !line.contains("(")
                && !line.contains("class");
            if (field) {
                check.same("static field: " + line.trim(),
                    line.matches(".*\\bstatic final (int|long|boolean|char|String)\\b.*"), true);
            }
        }
    }

    private static void sizes(Check check, String code) {
        int classes = 0;
        int fields = 0;
        int start = 0;
        String[] lines = code.split("\n");
        for (int i = 0; i < lines.length; i++) {
            String line = lines[i];
            if (line.matches(".*\\bclass\\b.*\\{")) {
                classes++;
                fields = 0;
            } else if (line.matches(" {4,8}(private )?(final )?[\\w\\[\\]]+ \\w+( = .*)?;")
                && !line.contains("return")) {
                fields++;
                check.same("fields up to " + line.trim(), fields <= MOST_FIELDS, true);
            }
            if (line.matches(" {4}(    )?[^ ].*\\(.*") && !line.contains(";")) {
                start = i;
                check.same("parameters of " + line.trim(), line.split(",").length <= MOST_PARAMETERS, true);
            }
            if (line.matches(" {4}(    )?\\}")) {
                check.same("lines of the method ending in line " + i, i - start <= MOST_LINES_OF_A_METHOD
                    || line.equals("    }"), true);
            }
        }
        check.same("number of classes", classes <= MOST_CLASSES, true);
    }
}
