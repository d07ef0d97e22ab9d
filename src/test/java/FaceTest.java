import java.lang.reflect.Constructor;
import java.lang.reflect.Field;
import java.lang.reflect.Method;
import java.lang.reflect.Modifier;
import java.util.TreeSet;

/** The public face: just the constants, the constructor and the methods of the document. */
public final class FaceTest {
    private static final String[] METHODS = {
        "int append(int,int,int,int,int)",
        "int parse(int) IllegalArgumentException",
        "int errorPosition()",
        "int size(int) IllegalArgumentException",
        "int find()",
        "int person(int,int) IndexOutOfBoundsException IllegalArgumentException",
        "int asset(int,int) IndexOutOfBoundsException IllegalArgumentException",
        "int debt(int,int) IndexOutOfBoundsException IllegalArgumentException",
        "int legacy(int,int) IndexOutOfBoundsException IllegalArgumentException",
        "int account(int) IllegalArgumentException",
        "int factor(int) IllegalArgumentException",
        "int heirs()",
        "int leftOut()",
        "boolean isEmpty(int) IndexOutOfBoundsException",
        "int step(int,int) IndexOutOfBoundsException IllegalArgumentException",
        "int given(int) IndexOutOfBoundsException",
        "boolean isBalanced()",
        "int givenIf(int,int) IndexOutOfBoundsException",
        "int helper(int) IndexOutOfBoundsException",
        "int tooMuch(int) IndexOutOfBoundsException",
        "boolean refuse(int,boolean) IndexOutOfBoundsException",
        "int die(int) IndexOutOfBoundsException",
        "int setAge(int,int) IndexOutOfBoundsException IllegalArgumentException",
        "int addGift(int,int) IndexOutOfBoundsException IllegalArgumentException IllegalStateException",
        "int addDebt(int,int) IllegalArgumentException IllegalStateException",
        "int setValue(int,int) IndexOutOfBoundsException IllegalArgumentException",
        "int setAccrue(boolean)",
        "int undo()",
        "boolean saveSnapshot(int) IndexOutOfBoundsException",
        "int restoreSnapshot(int) IndexOutOfBoundsException IllegalStateException",
    };

    public static void main(String[] args) {
        Kit.about("promises 1 to 31: the public face");
        TreeSet<String> due = new TreeSet<>(java.util.List.of(METHODS));
        TreeSet<String> publicNames = new TreeSet<>();
        for (Method method : EstateSettlement.class.getDeclaredMethods()) {
            if (method.isSynthetic()) {
                continue;
            }
            if (Modifier.isPublic(method.getModifiers())) {
                Kit.yes("the document has " + describe(method), due.remove(describe(method)));
                Kit.no(method + " is static", Modifier.isStatic(method.getModifiers()));
                publicNames.add(method.getName());
            } else {
                Kit.yes(method + " is private", Modifier.isPrivate(method.getModifiers()));
            }
        }
        Kit.yes("nothing is missing: " + due, due.isEmpty());
        for (Method method : EstateSettlement.class.getDeclaredMethods()) {
            if (Modifier.isPrivate(method.getModifiers())) {
                Kit.no(method + " bears a public name", publicNames.contains(method.getName()));
            }
        }
        checkFields();
        checkConstructor();
        Kit.yes("the class is public and final", (EstateSettlement.class.getModifiers()
                & (Modifier.PUBLIC | Modifier.FINAL)) == (Modifier.PUBLIC | Modifier.FINAL));
        Kit.finish();
    }

    private static void checkFields() {
        Kit.same("NONE", EstateSettlement.NONE, -1);
        for (Field field : EstateSettlement.class.getDeclaredFields()) {
            boolean open = field.getName().equals("NONE");
            int modifiers = field.getModifiers();
            Kit.yes(field + " is open or private", open ? Modifier.isPublic(modifiers) : Modifier.isPrivate(modifiers));
            Kit.yes(field + " is final if it is static", !Modifier.isStatic(modifiers) || Modifier.isFinal(modifiers));
        }
    }

    private static void checkConstructor() {
        Constructor<?>[] constructors = EstateSettlement.class.getDeclaredConstructors();
        Kit.same("the number of constructors", constructors.length, 1);
        Kit.yes("the constructor is public", Modifier.isPublic(constructors[0].getModifiers()));
        Kit.same("its parameters", constructors[0].getParameterCount(), 0);
    }

    private static String describe(Method method) {
        StringBuilder text = new StringBuilder();
        text.append(method.getReturnType().getSimpleName()).append(' ').append(method.getName()).append('(');
        for (Class<?> parameter : method.getParameterTypes()) {
            text.append(text.charAt(text.length() - 1) == '(' ? "" : ",").append(parameter.getSimpleName());
        }
        text.append(')');
        for (Class<?> exception : method.getExceptionTypes()) {
            text.append(' ').append(exception.getSimpleName());
        }
        return text.toString();
    }
}
