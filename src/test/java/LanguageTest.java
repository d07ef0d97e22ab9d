import java.lang.reflect.Field;
import java.lang.reflect.Method;
import java.lang.reflect.Modifier;
import java.nio.file.Files;
import java.nio.file.Path;
import java.util.regex.Matcher;
import java.util.regex.Pattern;

/** What ../shared/LANGUAGE.md rules out and a look at the source's words, or at the classes made of it, can find. */
public final class LanguageTest {
    private static final String[] RULED_OUT = {
        "\\bimport\\b", "\\bpackage\\b", "\\bprotected\\b", "->", "::", "\\bcatch\\b", "\\btry\\b",
        "\\bfinally\\b", "\\bassert\\b", "\\bsynchronized\\b", "\\binstanceof\\b", "\\bvar\\b",
        "Exact\\b", "\\bSystem\\.(?!arraycopy)", "\\bObject\\b", "\\bhashCode\\b", "\\btoString\\b",
        "\\bequals\\b", "\\bstatic\\s*\\{", "\\bjava\\.", "\\bThread\\b", "\\bRandom\\b",
        "\\bMath\\.(?!max\\b|min\\b)", "\\bdouble\\b", "\\bfloat\\b", "\\brecord\\b",
        "\"\\s*\\+", "\\+\\s*\"", "[^\\x00-\\x7f]",
    };

    public static void main(String[] args) throws Exception {
        Kit.about("promises 1 to 31: LANGUAGE.md");
        String source = Files.readString(Path.of("src/main/java/EstateSettlement.java"));
        String code = source.replaceAll("(?s)/\\*.*?\\*/", "").replaceAll("//[^\n]*", "");
        for (String words : RULED_OUT) {
            Matcher matcher = Pattern.compile(words).matcher(code);
            Kit.no("the source has " + words, matcher.find());
        }
        for (String line : code.split("\n")) {
            boolean field = line.matches("\\s+(private |public )?static [^(]*=.*");
            Kit.yes("a static field is final: " + line, !field || line.contains(" final "));
            Kit.yes("an exception is new: " + line, !line.contains("throw ")
                    || line.matches("\\s+throw new (IllegalState|IllegalArgument|IndexOutOfBounds)Exception\\(\"[a-z ]+\"\\);"));
        }
        Matcher loops = Pattern.compile("\\bfor \\(;|for \\([^;]*;\\s*;|while \\(true").matcher(code);
        Kit.no("a loop has no end", loops.find());
        Matcher made = Pattern.compile("(?m)^ {12,}.*\\bnew (?!\\w+Exception)").matcher(code);
        Kit.no("something is made outside the constructors", made.find());
        checkLengths(code);
        checkClass(EstateSettlement.class);
        Class<?>[] inside = EstateSettlement.class.getDeclaredClasses();
        Kit.yes("rule 11: some twelve classes", inside.length < 12);
        for (Class<?> one : inside) {
            int modifiers = one.getModifiers();
            Kit.yes("rule 1: " + one + " is not open", (modifiers & (Modifier.PUBLIC | Modifier.PROTECTED)) == 0);
            Kit.yes("rule 2: " + one + " is static", Modifier.isStatic(modifiers));
            checkClass(one);
        }
        Kit.finish();
    }

    private static void checkClass(Class<?> one) {
        int fields = 0;
        for (Field field : one.getDeclaredFields()) {
            boolean isStatic = Modifier.isStatic(field.getModifiers());
            fields += isStatic ? 0 : 1;
            Kit.yes("rule 5: " + field, !isStatic || Modifier.isFinal(field.getModifiers()));
        }
        Kit.yes("rule 11: fields of " + one, fields <= 20);
        for (Method method : one.getDeclaredMethods()) {
            Kit.yes("rule 11: parameters of " + method, method.getParameterCount() <= 7);
            for (Method open : EstateSettlement.class.getMethods()) {
                Kit.no("rule 1: private, by the name of a public one: " + method, Modifier.isPrivate(method.getModifiers())
                        && open.getDeclaringClass() == EstateSettlement.class && open.getName().equals(method.getName()));
            }
        }
    }

    /** A method ends where a brace stands as far in as its first line. */
    private static void checkLengths(String code) {
        Matcher methods = Pattern.compile("(?ms)^((?:    ){1,2})(?! |static final|private static final class|\\})"
                + "[^\n=;]*\\([^;{]*\\{\n(.*?)^\\1\\}\n").matcher(code);
        int found = 0;
        while (methods.find()) {
            found++;
            Kit.yes("rule 11: a method's length: " + methods.group().strip().split("\n")[0],
                    methods.group(2).split("\n").length <= 60);
        }
        Kit.yes("the methods are found: " + found, found >= 100);
    }
}
