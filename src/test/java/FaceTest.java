import java.lang.reflect.Constructor;
import java.lang.reflect.Field;
import java.lang.reflect.Method;
import java.lang.reflect.Modifier;
import java.util.Set;
import java.util.TreeSet;

/** What a caller sees of the class is the public face of the document, and nothing more. */
public final class FaceTest extends Cases {
    private static final String[] FACE = {
        "int feed(int, int, int, int, int) IllegalStateException",
        "int trim(int) IllegalArgumentException",
        "int teach()",
        "int errorAt()",
        "int count(int) IndexOutOfBoundsException",
        "int colour(int, int) IndexOutOfBoundsException",
        "int cord(int, int) IndexOutOfBoundsException",
        "int digit(int, int) IndexOutOfBoundsException",
        "int top(int, int) IndexOutOfBoundsException",
        "int keeper(int, int) IndexOutOfBoundsException",
        "int apart(int, int) IndexOutOfBoundsException",
        "int order(int) IndexOutOfBoundsException",
        "int find(int)",
        "int disorder()",
        "int set(int, int) IndexOutOfBoundsException IllegalArgumentException",
        "int rest(int) IndexOutOfBoundsException",
        "int dye(int, int) IndexOutOfBoundsException",
        "int hang(int, int) IndexOutOfBoundsException IllegalStateException",
        "int pass(int) IllegalArgumentException",
        "int until(int) IndexOutOfBoundsException",
        "int foresee(int, int) IllegalArgumentException IndexOutOfBoundsException",
        "int advise(int) IllegalArgumentException",
        "double mean()",
        "long digest()",
    };

    private FaceTest() {
    }

    public static void main(String[] args) {
        theClass();
        theMethods();
        theFields();
        theClassesInside();
        end();
    }

    private static void theClass() {
        int modifiers = QuipuKeepers.class.getModifiers();
        due("the class is public", Modifier.isPublic(modifiers), true);
        due("the class is final", Modifier.isFinal(modifiers), true);
        due("the class has no package", QuipuKeepers.class.getPackageName(), "");
        Constructor<?>[] constructors = QuipuKeepers.class.getDeclaredConstructors();
        due("constructors", constructors.length, 1);
        for (Constructor<?> constructor : constructors) {
            due("the constructor is public", Modifier.isPublic(constructor.getModifiers()), true);
            due("numbers that it takes", constructor.getParameterCount(), 0);
            due("exceptions that it names", constructor.getExceptionTypes().length, 0);
        }
    }

    private static void theMethods() {
        Set<String> seen = new TreeSet<>();
        Set<String> publicNames = new TreeSet<>();
        for (Method method : QuipuKeepers.class.getDeclaredMethods()) {
            if (!Modifier.isPrivate(method.getModifiers())) {
                due(method.getName() + " is public", Modifier.isPublic(method.getModifiers()), true);
                due(method.getName() + " is of an object", Modifier.isStatic(method.getModifiers()), false);
                seen.add(written(method));
                publicNames.add(method.getName());
            }
        }
        due("the methods", seen, new TreeSet<>(Set.of(FACE)));
        for (Method method : QuipuKeepers.class.getDeclaredMethods()) {
            boolean isPrivate = Modifier.isPrivate(method.getModifiers());
            due(method.getName() + " has a name of its own", isPrivate && publicNames.contains(method.getName()), false);
        }
    }

    private static String written(Method method) {
        StringBuilder text = new StringBuilder();
        text.append(method.getReturnType()).append(' ').append(method.getName()).append('(');
        for (Class<?> type : method.getParameterTypes()) {
            text.append(text.charAt(text.length() - 1) == '(' ? "" : ", ").append(type);
        }
        text.append(')');
        for (Class<?> type : method.getExceptionTypes()) {
            text.append(' ').append(type.getSimpleName());
        }
        return text.toString();
    }

    private static void theFields() {
        for (Field field : QuipuKeepers.class.getDeclaredFields()) {
            due(field.getName() + " is private", Modifier.isPrivate(field.getModifiers()), true);
            boolean changes = Modifier.isStatic(field.getModifiers()) && !Modifier.isFinal(field.getModifiers());
            due(field.getName() + " is shared and changes", changes, false);
        }
    }

    private static void theClassesInside() {
        for (Class<?> inside : QuipuKeepers.class.getDeclaredClasses()) {
            int modifiers = inside.getModifiers();
            due(inside + " is seen", Modifier.isPublic(modifiers) || Modifier.isProtected(modifiers), false);
            due(inside + " is static", Modifier.isStatic(modifiers), true);
        }
    }
}
