import java.io.IOException;
import java.nio.file.Files;
import java.nio.file.Path;
import java.util.Map;
import java.util.TreeMap;
import java.util.regex.Matcher;
import java.util.regex.Pattern;

/** The rules of LANGUAGE.md that the source's text shows; run in the project's folder. */
final class LanguageTest {
    private static final String[] FORBIDDEN = {
        "->", "::", "\\bsynchronized\\b", "\\bassert\\b", "\\btry\\b", "\\bcatch\\b", "\\bfinally\\b", "\\bpackage\\b", "Exact\\(",
        "\\bdouble\\b", "\\bfloat\\b", "\\bObject\\b", "\\bprotected\\b", "\\bSystem\\.(?!arraycopy)", "\\bthread", "@", "static \\{",
        "\\bhashCode\\b", "\\btoString\\b", "\\bequals\\b", "[^/*]/[^/*]", "%", "while \\(true\\)", "for \\(;",
    };

    public static void main(String[] args) throws IOException {
        String source = Files.readString(Path.of("src/main/java/BodySolids.java"));
        String code = source.replaceAll("(?s)/\\*.*?\\*/", "").replaceAll("//[^\\n]*", "").replaceAll("\"[^\"\\n]*\"", "\"\"");
        for (String word : FORBIDDEN) {
            Due.no("the source has " + word, Pattern.compile(word).matcher(code).find());
        }
        Due.yes("only these are imported", code.replace("import java.util.ArrayList;", "").replace("import java.util.Arrays;", "")
                .indexOf("import") < 0);
        for (int i = 0; i < source.length(); i++) {
            if (source.charAt(i) > 255) {
                Due.no("a character above 255", true);
            }
        }
        int classes = 0;
        Matcher each = Pattern.compile("\\bclass \\w+").matcher(code);
        while (each.find()) {
            classes++;
        }
        Due.yes("at most twelve classes", classes <= 12);
        lengthsOfMethods(code);
        depthOfCalls(methods(code));
        Due.end();
    }

    /** Each method's name, by its class's and its own, with its text. */
    private static Map<String, String> methods(String code) {
        Map<String, String> found = new TreeMap<>();
        Matcher each = Pattern.compile("(?m)^( {4}| {8})(?:private |public |static |final )*[\\w<>\\[\\]]+ (\\w+)\\([^{};]*\\{\\n((?s:.*?)\\n)\\1\\}").matcher(code);
        while (each.find()) {
            found.merge(each.group(2), each.group(3), String::concat);
        }
        return found;
    }

    /** Rules 8 and 11: nothing calls itself, and eight calls are the deepest. */
    private static void depthOfCalls(Map<String, String> methods) {
        Due.yes("the methods were found, " + methods.keySet(), methods.size() > 60);
        for (String name : methods.keySet()) {
            Due.yes("calls from " + name + " on are at most eight deep", depth(name, methods, 1) <= 8);
        }
    }

    private static int depth(String name, Map<String, String> methods, int open) {
        int found = open;
        // A list's own add is no method of the class.
        Matcher call = Pattern.compile("(?:\\b(bodies|placements|keepOuts|solids)\\.)?\\b(\\w+)\\(").matcher(methods.get(name));
        while (call.find() && found < 20) {
            if (call.group(1) == null && methods.containsKey(call.group(2))) {
                found = Math.max(found, depth(call.group(2), methods, open + 1));
            }
        }
        return found;
    }

    private static void lengthsOfMethods(String code) {
        String[] lines = code.split("\n");
        for (int i = 0; i < lines.length; i++) {
            int indent = lines[i].length() - lines[i].stripLeading().length();
            boolean method = lines[i].matches(" +[\\w<> \\[\\]]+\\([\\w ,\\[\\]]*\\)( throws .*)? *\\{");
            if (method && (indent == 4 || indent == 8)) {
                int end = i;
                while (end < lines.length && !lines[end].equals(" ".repeat(indent) + "}")) {
                    end++;
                }
                Due.yes("short enough: " + lines[i].strip(), end - i <= 60);
                Due.yes("at most seven parameters: " + lines[i].strip(), lines[i].chars().filter(c -> c == ',').count() <= 7);
            }
        }
    }
}
