import java.io.IOException;
import java.nio.file.Files;
import java.nio.file.Path;
import java.util.regex.Matcher;
import java.util.regex.Pattern;

/** The rules of LANGUAGE.md that can be seen in the text of the program. It is run in the root of the checkout. */
public final class LanguageTest {
    private static final String[] FORBIDDEN = {
        "->", "::", "\\bcatch\\b", "\\bfinally\\b", "\\bsynchronized\\b", "\\bassert\\b", "\\bimport\\b",
        "\\bpackage\\b", "Exact\\s*\\(", "\\bstatic\\s*\\{", "\\bThread\\b", "\\bprotected\\b",
        "\\bSystem\\.(?!arraycopy\\b)", "\\bMath\\.(?!floorMod\\b|min\\b|max\\b)", "\"\\s*\\+", "\\+\\s*\"",
        "\\bfloat\\b", "\\.(equals|hashCode|toString|getClass)\\s*\\(",
    };

    public static void main(String[] args) throws IOException {
        String text = withoutComments(Files.readString(Path.of("src/main/java/GridInverter.java")));
        for (String pattern : FORBIDDEN) {
            Check.due("the program has " + pattern, Pattern.compile(pattern).matcher(text).find(), false);
        }
        Matcher thrown = Pattern.compile("\\bthrow\\b[^;]*;").matcher(text);
        int throwsSeen = 0;
        while (thrown.find()) {
            throwsSeen++;
            Check.due(thrown.group(), thrown.group().matches("throw new "
                    + "(IllegalArgumentException|IllegalStateException|IndexOutOfBoundsException)\\(\"[^\"]+\"\\);"),
                    true);
        }
        Check.due("it throws somewhere", throwsSeen > 0, true);
        Check.due("its signs are 1 to 127", text.chars().allMatch(c -> c >= 1 && c <= 127), true);
        Check.end("LanguageTest");
    }

    private static String withoutComments(String text) {
        return text.replaceAll("(?s)/\\*.*?\\*/", "").replaceAll("//[^\n]*", "");
    }
}
