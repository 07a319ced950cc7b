import java.io.IOException;
import java.nio.file.Files;
import java.nio.file.Path;
import java.util.regex.Matcher;
import java.util.regex.Pattern;

/** The rules of LANGUAGE.md that the source's text shows; run in the project's folder. */
final class LanguageTest {
    private static final String[] FORBIDDEN = {
        "->", "::", "\\bsynchronized\\b", "\\bassert\\b", "\\btry\\b", "\\bcatch\\b", "\\bfinally\\b", "\\bpackage\\b", "Exact\\(",
        "\\bdouble\\b", "\\bfloat\\b", "\\bObject\\b", "\\bprotected\\b", "\\bSystem\\.(?!arraycopy)", "\\bthread", "@", "static \\{",
        "\\bhashCode\\b", "\\btoString\\b", "\\bequals\\b", "[^/*]/[^/*]", "%", "while \\(true\\)", "for \\(;",
    };

    public static void main(String[] args) throws IOException {
        String source = Files.readString(Path.of("src/main/java/BodySolids.java"));
        String code = source.replaceAll("(?s)/\\*.*?\\*/", "").replaceAll("//[^\\n]*", "").replaceAll("\"[^\"\\n]*\"", "\"\"");
        for (String word : FORBIDDEN) {
            Due.no("the source has " + word, Pattern.compile(word).matcher(code).find());
        }
        Due.yes("only these are imported", code.replace("import java.util.ArrayList;", "").replace("import java.util.Arrays;", "")
                .indexOf("import") < 0);
        for (int i = 0; i < source.length(); i++) {
            if (source.charAt(i) > 255) {
                Due.no("a character above 255", true);
            }
        }
        int classes = 0;
        Matcher each = Pattern.compile("\\bclass \\w+").matcher(code);
        while (each.find()) {
            classes++;
        }
        Due.yes("at most twelve classes", classes <= 12);
        lengthsOfMethods(code);
        Due.end();
    }

    private static void lengthsOfMethods(String code) {
        String[] lines = code.split("\n");
        for (int i = 0; i < lines.length; i++) {
            int indent = lines[i].length() - lines[i].stripLeading().length();
            boolean method = lines[i].matches(" +[\\w<> \\[\\]]+\\([\\w ,\\[\\]]*\\)( throws .*)? *\\{");
            if (method && (indent == 4 || indent == 8)) {
                int end = i;
                while (end < lines.length && !lines[end].equals(" ".repeat(indent) + "}")) {
                    end++;
                }
                Due.yes("short enough: " + lines[i].strip(), end - i <= 60);
                Due.yes("at most seven parameters: " + lines[i].strip(), lines[i].chars().filter(c -> c == ',').count() <= 7);
            }
        }
    }
}
