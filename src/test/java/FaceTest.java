import java.lang.reflect.Constructor;
import java.lang.reflect.Field;
import java.lang.reflect.Method;
import java.lang.reflect.Modifier;
import java.util.Arrays;
import java.util.TreeSet;
import java.util.stream.Collectors;

/** The public face: every constant, constructor and method of the document, and no other member to be seen. */
public final class FaceTest {
    private static final String[] FACE = {
        "int withdraw(int, int, long, int) throws IllegalArgumentException, IllegalStateException",
        "int choose(int, int) throws IllegalArgumentException, NoSuchElementException",
        "int spend(int, int, int, int) throws IllegalArgumentException, IllegalStateException",
        "long tamper(int, int, long) throws IllegalArgumentException",
        "long number(int, int) throws NoSuchElementException",
        "boolean good(int)",
        "int deposit(int, int) throws IllegalArgumentException, IllegalStateException",
        "int traced()",
        "int balance(int) throws IllegalArgumentException",
        "int coins(int)",
        "long coin(int, int) throws NoSuchElementException",
        "long signature(int, int) throws NoSuchElementException",
        "long blinded()",
        "int count(int)",
    };

    public static void main(String[] args) {
        Check check = new Check();
        check.due("the class's modifiers", BlindMint.class.getModifiers(), Modifier.PUBLIC | Modifier.FINAL);
        TreeSet<String> seen = new TreeSet<>();
        for (Method method : BlindMint.class.getDeclaredMethods()) {
            if (!Modifier.isPrivate(method.getModifiers())) {
                check.due("the modifiers of " + method.getName(), method.getModifiers(), Modifier.PUBLIC);
                seen.add(written(method));
            }
        }
        check.due("the methods", seen, new TreeSet<>(Arrays.asList(FACE)));
        for (Field field : BlindMint.class.getDeclaredFields()) {
            if (!Modifier.isPrivate(field.getModifiers())) {
                check.due("a field to be seen", field.toString(), "public static final int BlindMint.NONE");
            }
        }
        Constructor<?>[] constructors = BlindMint.class.getDeclaredConstructors();
        check.due("the constructors", Arrays.toString(constructors), "[public BlindMint()]");
        check.due("NONE", BlindMint.NONE, -1);
        check.finish();
    }

    private static String written(Method method) {
        String thrown = names(method.getExceptionTypes());
        return method.getReturnType().getSimpleName() + " " + method.getName()
                + "(" + names(method.getParameterTypes()) + ")" + (thrown.isEmpty() ? "" : " throws " + thrown);
    }

    private static String names(Class<?>[] types) {
        return Arrays.stream(types).map(Class::getSimpleName).collect(Collectors.joining(", "));
    }
}
