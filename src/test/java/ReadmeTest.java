import java.io.File;
import java.lang.reflect.InvocationTargetException;
import java.lang.reflect.Method;
import java.nio.file.Files;
import java.nio.file.Path;
import java.util.regex.Matcher;
import java.util.regex.Pattern;

/** The examples of README.md, read from the page itself: each call answers what its comment says. */
public final class ReadmeTest {
    private static final Pattern BLOCK = Pattern.compile("(?s)```java\n(.*?)```");
    private static final Pattern TEXT = Pattern.compile("String text = ((?:\"[^\"]*\"[\\s+]*)+);");
    private static final Pattern LITERAL = Pattern.compile("\"([^\"]*)\"");
    private static final Pattern TYPED = Pattern.compile("type\\(x, (text|\"[^\"]*\")\\);");
    private static final Pattern CALL = Pattern.compile(
            "x\\.(\\w+)\\((.*)\\); +// (throws \\w+|true|false|-?\\d+)(?::.*)?");

    private final EstateSettlement x = new EstateSettlement();
    private String text = "";
    private int calls = 0;

    public static void main(String[] args) throws Exception {
        Kit.about("README.md");
        String page = Files.readString(Path.of("README.md"));
        String kit = Files.readString(Path.of("src/test/java/Kit.java"));
        ReadmeTest test = new ReadmeTest();
        Matcher blocks = BLOCK.matcher(page);
        while (blocks.find()) {
            if (blocks.group(1).startsWith("static")) {
                checkHelper(blocks.group(1), kit);
            } else {
                test.run(blocks.group(1));
            }
        }
        Kit.yes("the page has examples", test.calls > 30);
        for (File file : new File("src/test/java").listFiles()) {
            String name = file.getName().replace(".java", "");
            Kit.yes("the page tells of " + name, page.contains(name));
        }
        Kit.finish();
    }

    /** The page's way to type a text is the one that all tests use. */
    private static void checkHelper(String code, String kit) {
        for (String line : code.split("\n")) {
            Kit.yes("Kit.java has: " + line, kit.contains("\n    " + line + "\n") || line.isEmpty());
        }
    }

    private void run(String block) throws Exception {
        Matcher described = TEXT.matcher(block);
        if (described.find()) {
            text = literalsOf(described.group(1));
        }
        for (String line : described.replaceAll("").split("\n")) {
            Matcher typed = TYPED.matcher(line);
            Matcher call = CALL.matcher(line);
            if (typed.matches()) {
                Kit.type(x, typed.group(1).equals("text") ? text : literalsOf(typed.group(1)));
            } else if (call.matches()) {
                String got = answer(call.group(1), call.group(2));
                Kit.yes("the page's " + line + " (" + got + ")", got.equals(call.group(3)));
                calls++;
            } else {
                Kit.yes("it is no example: " + line, line.isEmpty() || line.startsWith("EstateSettlement x = new "));
            }
        }
    }

    /** Makes the call, and tells its answer as the page writes it. */
    private String answer(String name, String arguments) throws Exception {
        String[] words = arguments.isEmpty() ? new String[0] : arguments.split(", ");
        Object[] values = new Object[words.length];
        for (int i = 0; i < words.length; i++) {
            values[i] = valueOf(words[i]);
        }
        for (Method method : EstateSettlement.class.getMethods()) {
            if (method.getName().equals(name)) {
                try {
                    return String.valueOf(method.invoke(x, values));
                } catch (InvocationTargetException e) {
                    return "throws " + e.getCause().getClass().getSimpleName();
                }
            }
        }
        return "no such call";
    }

    private Object valueOf(String argument) {
        if (argument.equals("text.length()")) {
            return text.length();
        }
        if (argument.matches("true|false")) {
            return Boolean.valueOf(argument);
        }
        return Integer.valueOf(argument);
    }

    private static String literalsOf(String code) {
        StringBuilder joined = new StringBuilder();
        Matcher literal = LITERAL.matcher(code);
        while (literal.find()) {
            joined.append(literal.group(1));
        }
        return joined.toString();
    }
}
