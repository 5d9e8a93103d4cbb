import java.nio.file.Files;
import java.nio.file.Path;
import java.util.List;
import java.util.regex.Matcher;
import java.util.regex.Pattern;

/** The rules of LANGUAGE.md that can be seen in the text of the class; it is run in the project's folder. */
public final class LanguageTest {
    private static final Due due = new Due("LanguageTest");
    private static final int LONGEST = 60;

    public static void main(String[] args) throws Exception {
        List<String> lines = Files.readAllLines(Path.of("src/main/java/WaterWorks.java"));
        String text = String.join("\n", lines);
        String code = text.replaceAll("(?s)/\\*.*?\\*/", "").replaceAll("//[^\n]*", "");
        String[] words = {"throw", "throws", "try", "catch", "finally", "synchronized", "assert", "yield", "package", "protected",
            "System", "Random", "Thread", "Object", "equals", "hashCode", "toString", "Exact", "HashMap", "Iterator", "stream", "var",
            "volatile", "native", "double", "float"};
        for (String word : words) {
            due.holds(!Pattern.compile("\\b" + word + "\\b").matcher(code).find(), "no " + word);
        }
        String[] signs = {"->", "::", "@", "\"", "while (true", "for (;;", "static {", "? extends", "? super"};
        for (String sign : signs) {
            due.holds(!code.contains(sign), "no " + sign);
        }
        Matcher imports = Pattern.compile("import ([^;]*);").matcher(code);
        while (imports.find()) {
            due.holds(imports.group(1).matches("java\\.util\\.(ArrayList|List)"), "import " + imports.group(1));
        }
        Matcher maths = Pattern.compile("Math\\.(\\w+)").matcher(code);
        while (maths.find()) {
            due.holds(maths.group(1).matches("min|max|abs"), "Math." + maths.group(1));
        }
        due.holds(!Pattern.compile("for \\([^;()]*:").matcher(code).find(), "loops over lists by index");
        due.holds(text.chars().allMatch(c -> c < 128), "plain characters");
        methodsAreShort(lines);
        due.done();
    }

    private static void methodsAreShort(List<String> lines) {
        int began = 0;
        for (int i = 0; i < lines.size(); i++) {
            String line = lines.get(i);
            if (line.matches(" {4,8}(public |private |static )*[\\w<>\\[\\]]+( \\w+)?\\(.*\\{")) {
                began = i;
            }
            if (line.equals("    }") || line.equals("        }")) {
                due.holds(i - began <= LONGEST || began == 0, "the method at line " + (began + 1) + " is short");
            }
        }
    }
}
