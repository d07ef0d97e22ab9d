import java.nio.file.Files;
import java.nio.file.Path;
import java.util.regex.Matcher;
import java.util.regex.Pattern;

/** What ../shared/LANGUAGE.md rules out and a look at the source's words can find. */
public final class LanguageTest {
    private static final String[] RULED_OUT = {
        "\\bimport\\b", "\\bpackage\\b", "\\bprotected\\b", "->", "::", "\\bcatch\\b", "\\btry\\b",
        "\\bfinally\\b", "\\bassert\\b", "\\bsynchronized\\b", "\\binstanceof\\b", "\\bvar\\b",
        "Exact\\b", "\\bSystem\\.(?!arraycopy)", "\\bObject\\b", "\\bhashCode\\b", "\\btoString\\b",
        "\\bequals\\b", "\\bstatic\\s*\\{", "\\bjava\\.", "\\bThread\\b", "\\bRandom\\b",
        "\"\\s*\\+", "\\+\\s*\"", "[^\\x00-\\x7f]",
    };

    public static void main(String[] args) throws Exception {
        Kit.about("promises 1 to 31: LANGUAGE.md");
        String source = Files.readString(Path.of("src/main/java/EstateSettlement.java"));
        String code = source.replaceAll("(?s)/\\*.*?\\*/", "").replaceAll("//[^\n]*", "");
        for (String words : RULED_OUT) {
            Matcher matcher = Pattern.compile(words).matcher(code);
            Kit.no("the source has " + words, matcher.find());
        }
        for (String line : code.split("\n")) {
            boolean field = line.matches("\\s+(private |public )?static [^(]*=.*");
            Kit.yes("a static field is final: " + line, !field || line.contains(" final "));
            Kit.yes("an exception is new: " + line, !line.contains("throw ")
                    || line.matches("\\s+throw new (IllegalState|IllegalArgument|IndexOutOfBounds)Exception\\(\"[a-z ]+\"\\);"));
        }
        Matcher loops = Pattern.compile("\\bfor \\(;|for \\([^;]*;\\s*;|while \\(true").matcher(code);
        Kit.no("a loop has no end", loops.find());
        Matcher made = Pattern.compile("(?m)^ {12,}.*\\bnew (?!\\w+Exception)").matcher(code);
        Kit.no("something is made outside the constructors", made.find());
        Kit.finish();
    }
}
