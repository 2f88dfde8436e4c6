import java.io.IOException;
import java.nio.file.Files;
import java.nio.file.Path;
import java.util.regex.Pattern;

/** The rules of LANGUAGE.md that can be seen in the text of the class; run it in the project's directory. */
final class SourceTest {
    private static final String[] REFUSED = {
        "\\bpackage\\b", "\\bimport\\b", "\\bcatch\\b", "\\bfinally\\b", "\\bsynchronized\\b", "\\bassert\\b", "->", "::",
        "\\bFloat\\.", "\\bDouble\\.", "Exact\\(", "\\bSystem\\.(?!arraycopy)", "\\bRandom\\b", "\\bThread\\b",
        "\\bstatic \\{", "\\bString\\.format\\b", "\\b(equals|hashCode|toString)\\(", "\\bprotected\\b", "while \\(true\\)",
        "for \\(;;\\)"
    };

    public static void main(String[] args) throws IOException {
        String source = Files.readString(Path.of("src/main/java/HornEngine.java"));
        String code = source.replaceAll("(?s)/\\*.*?\\*/", " ").replaceAll("//[^\n]*", " ");
        for (String refused : REFUSED) {
            Check.holds("nothing in the code is like " + refused, !Pattern.compile(refused).matcher(code).find());
        }
        Check.holds("its signs are 1 to 127", source.chars().allMatch(sign -> sign >= 1 && sign <= 127));
        int classes = code.split("\\b(class|record|enum|interface)\\s+\\w", -1).length - 1;
        Check.holds("it has at most twelve classes", classes <= 12);
        Check.end();
    }
}
