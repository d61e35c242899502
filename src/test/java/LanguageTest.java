import java.nio.charset.StandardCharsets;
import java.nio.file.Files;
import java.nio.file.Path;
import java.util.regex.Matcher;
import java.util.regex.Pattern;

/** Rules of LANGUAGE.md that can be seen in the text of the class. It is run in the project's own directory. */
final class LanguageTest {
    private static final String[] FORBIDDEN = {"->", "::", "\\bsynchronized\\b", "\\bassert\\b", "\\bfinally\\b",
        "\\bcatch\\b", "\\btry\\b", "Exact\\(", "\\bstatic \\{", "\\bpackage\\b", "\\bprotected\\b", "\\bdouble\\b",
        "\\bfloat\\b", "\\bhashCode\\b", "\\btoString\\b", "\\.ordinal\\(", "\\.name\\(", "\\bString\\.", "\\bArrays\\.",
        "\\bThread\\b", "\\bRandom\\b", "nanoTime", "currentTimeMillis", "\\bgoto\\b", "\\binstanceof\\b", "while \\(true"};

    public static void main(String[] args) throws Exception {
        String text = Files.readString(Path.of("src/main/java/FuneralUmbrellas.java"), StandardCharsets.US_ASCII);
        String code = text.replaceAll("(?s)/\\*.*?\\*/", "").replaceAll("//[^\n]*", "");
        for (String forbidden : FORBIDDEN) {
            Matcher m = Pattern.compile(forbidden).matcher(code);
            Check.due("'" + forbidden + "' stands in the class", m.find(), false);
        }
        Check.due("imports", number(code, "\\bimport "), 1);
        Check.due("the import", code.contains("import java.util.NoSuchElementException;"), true);
        Check.due("some twelve classes", number(code, "\\b(class|enum|interface|record) \\w+ ?\\{") <= 13, true);
        Check.due("each throw is of the document", number(code, "\\bthrow new "),
                number(code, "\\bthrow new NoSuchElementException\\(\"[a-z ]+\"\\);"));
        methods(code);
        Check.finish("LanguageTest");
    }

    private static int number(String text, String pattern) {
        Matcher m = Pattern.compile(pattern).matcher(text);
        int number = 0;
        while (m.find()) {
            number++;
        }
        return number;
    }

    private static void methods(String code) {
        Matcher m = Pattern.compile("(?m)^( +)(?:\\w+ )*[\\w\\[\\]]+ (\\w+)\\(([^)]*)\\)(?: throws \\w+)? \\{$").matcher(code);
        while (m.find()) {
            if (m.group().contains(" else ")) {
                continue;
            }
            int end = code.indexOf("\n" + m.group(1) + "}", m.end());
            int lines = number(code.substring(m.start(), Math.max(end, m.start())), "\n");
            Check.due(m.group(2) + " has " + lines + " lines", lines <= 60, true);
            Check.due(m.group(2) + " has at most seven parameters", number(m.group(3), ",") < 7, true);
        }
    }
}
