import java.io.IOException;
import java.nio.file.Files;
import java.nio.file.Path;
import java.util.regex.Matcher;
import java.util.regex.Pattern;

/** Those rules of ../shared/LANGUAGE.md that can be seen in the text of the program. */
final class LanguageTest {
    private static final String[] OUTSIDE_THE_LANGUAGE = {
        "\\bpackage\\b", "\\bimport\\b(?! java\\.util\\.(ArrayList|List|Arrays|Iterator);)", "->", "::",
        "\\bsynchronized\\b", "\\bassert\\b", "\\bfinally\\b", "\\bvar\\b", "\\bvolatile\\b",
        "\\bnative\\b", "\\bprotected\\b", "\\bMath\\.(?!min\\b|max\\b|abs\\b|floor(Div|Mod)\\b)",
        "Exact\\b", "\\bRandom\\b", "\\bThread\\b", "\\bSystem\\.(?!arraycopy\\b)", "\\bgetClass\\b",
        "\\bObject\\b", "[^\\x00-\\x7f]",
        // The document has no exceptions: nothing is thrown, so nothing is caught.
        "\\bcatch\\b", "\\bthrow\\b"
    };

    public static void main(String[] args) throws IOException {
        String source = Files.readString(Path.of("src/main/java/TwoScribes.java"));
        String code = source.replaceAll("(?s)/\\*.*?\\*/", "").replaceAll("//[^\n]*", "");
        for (String rule : OUTSIDE_THE_LANGUAGE) {
            Matcher m = Pattern.compile(rule).matcher(code);
            Check.holds("no " + rule + " in the program", !m.find());
        }
        methodsAreShort(code);
        Check.finish();
    }

    /** A method begins with a line that ends in "{" at the depth of a class. */
    private static void methodsAreShort(String code) {
        Matcher m = Pattern.compile("(?m)^( {4}| {8})(?! )[^\n]*\\)\\s*\\{\n(.*?)^\\1\\}", Pattern.DOTALL)
                .matcher(code);
        int methods = 0;
        while (m.find()) {
            methods++;
            long lines = m.group(2).lines().count();
            Check.holds("a method is short: " + m.group().lines().findFirst().orElse(""), lines <= 60);
        }
        Check.holds("methods were found", methods > 60);
    }
}
