import java.io.IOException;
import java.nio.file.Files;
import java.nio.file.Path;
import java.util.List;
import java.util.regex.Matcher;
import java.util.regex.Pattern;

/** Those rules of LANGUAGE.md that the text of the program shows; run from the project's root. */
public final class RulesTest {
    private static final Checks checks = new Checks();

    private static final String[] FORBIDDEN = {
        "->", "::", "\\bimport\\b", "\\bpackage\\b", "\\bcatch\\b", "\\btry\\b", "\\bfinally\\b", "\\bsynchronized\\b",
        "\\bassert\\b", "\\bstatic\\s*\\{", "\\bprotected\\b", "\\bObject\\b", "\\bSystem\\.(?!arraycopy)", "\\bThread\\b",
        "\\b(equals|hashCode|toString)\\s*\\(\\s*(Object[^)]*)?\\)\\s*\\{", "Exact\\b", "\\bvar\\b", "\\brecord\\b",
        "\\blong\\s+\\w+\\s*=\\s*System", "\\bvolatile\\b", "\\bnative\\b", "\\bRandom\\b", "\\bMath\\.random\\b"
    };

    public static void main(String[] args) throws IOException {
        String source = Files.readString(Path.of("src/main/java/VisitorLoom.java"));
        for (int i = 0; i < source.length(); i++) {
            char sign = source.charAt(i);
            if (sign > 126 || sign < 32 && sign != '\n') {
                checks.yes("sign " + (int) sign, false);
            }
        }
        String code = source.replaceAll("(?s)/\\*.*?\\*/", "").replaceAll("//[^\n]*", "");
        String bare = code.replaceAll("\"[^\"\n]*\"", "\"\"");
        for (String pattern : FORBIDDEN) {
            Matcher found = Pattern.compile(pattern).matcher(bare);
            checks.yes("nothing like " + pattern, !found.find());
        }
        throwsAreWritten(code);
        staticsAreFinal(bare);
        methodsAreShort(code);
        checks.end();
    }

    private static void throwsAreWritten(String code) {
        Matcher any = Pattern.compile("\\bthrow\\b[^;]*;").matcher(code);
        Pattern fit = Pattern.compile("throw new (IllegalStateException|IllegalArgumentException"
                + "|IndexOutOfBoundsException)\\((\"[^\"]*\")?\\);");
        while (any.find()) {
            checks.yes(any.group(), fit.matcher(any.group()).matches());
        }
    }

    private static void staticsAreFinal(String bare) {
        Matcher any = Pattern.compile("\\bstatic\\b[^;{]*[;={]").matcher(bare);
        while (any.find()) {
            String found = any.group();
            checks.yes(found, found.contains("final") || found.contains("("));
        }
        int classes = bare.split("\\bclass\\b").length - 1;
        checks.yes("at most twelve classes", classes <= 12);
    }

    private static void methodsAreShort(String code) {
        int length = 0;
        boolean isInside = false;
        for (String line : List.of(code.split("\n"))) {
            boolean opens = line.matches(" {4,8}[\\w ].*\\)\\s*(throws [\\w, ]*)?\\{\\s*") && !line.contains(" new ");
            if (opens) {
                isInside = true;
                length = 0;
            }
            length++;
            if (isInside && line.matches(" {4,8}\\}\\s*")) {
                checks.yes("a method of " + length + " lines", length <= 60);
            }
        }
    }
}
