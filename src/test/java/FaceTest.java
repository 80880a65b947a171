import java.lang.reflect.Constructor;
import java.lang.reflect.Field;
import java.lang.reflect.Method;
import java.lang.reflect.Modifier;
import java.util.List;
import java.util.Set;
import java.util.TreeSet;

/** The public face of the document, and rule 1 of LANGUAGE.md. */
public final class FaceTest {
    private static final Set<String> FACE = new TreeSet<>(List.of(
        "int append(int,int,int,int) throws "
            + "IllegalArgumentException,IllegalStateException,UnsupportedOperationException,"
            + "IndexOutOfBoundsException",
        "int read(int,int) throws "
            + "IllegalArgumentException,IllegalStateException,NoSuchElementException,"
            + "UnsupportedOperationException,IndexOutOfBoundsException",
        "int fill(int,int) throws IllegalArgumentException,IllegalStateException",
        "int trim(int,int) throws IllegalArgumentException,IllegalStateException",
        "int learn(int) throws IllegalArgumentException",
        "int change(int,int,int) throws IllegalArgumentException,IllegalStateException",
        "int up(int,boolean) throws IllegalArgumentException",
        "int lose()",
        "int sync(int) throws "
            + "IllegalArgumentException,IllegalStateException,NoSuchElementException,IndexOutOfBoundsException",
        "int get(int,int) throws IllegalArgumentException",
        "int begin(int) throws IllegalArgumentException,IllegalStateException",
        "int see(int,int) throws IllegalArgumentException,IllegalStateException",
        "int put(int,int,int) throws IllegalArgumentException,IllegalStateException",
        "boolean commit(int) throws "
            + "IllegalArgumentException,IllegalStateException,NoSuchElementException,"
            + "UnsupportedOperationException,IndexOutOfBoundsException",
        "int drop(int) throws IllegalArgumentException",
        "int look(int,int) throws IllegalArgumentException",
        "int client(int,int) throws IllegalArgumentException",
        "int count(int) throws IllegalArgumentException"));
    private static int wrong = 0;

    public static void main(String[] args) {
        require(Modifier.isPublic(SharedLog.class.getModifiers()), "the class is public");
        require(Modifier.isFinal(SharedLog.class.getModifiers()), "the class is final");
        checkConstructors();
        checkMethods();
        checkFields();
        checkClassesInside();
        System.exit(wrong == 0 ? 0 : 1);
    }

    private static void checkConstructors() {
        Constructor<?>[] constructors = SharedLog.class.getDeclaredConstructors();
        require(constructors.length == 1, "one constructor");
        require(Modifier.isPublic(constructors[0].getModifiers()), "a public constructor");
        require(constructors[0].getParameterCount() == 0, "a constructor without parameters");
    }

    private static void checkMethods() {
        Set<String> open = new TreeSet<>();
        Set<String> openNames = new TreeSet<>();
        Set<String> hiddenNames = new TreeSet<>();
        for (Method method : SharedLog.class.getDeclaredMethods()) {
            if (Modifier.isPrivate(method.getModifiers()) || method.isSynthetic()) {
                hiddenNames.add(method.getName());
            } else {
                require(Modifier.isPublic(method.getModifiers()), method.getName() + " is public or private");
                open.add(signature(method));
                openNames.add(method.getName());
            }
        }
        require(open.equals(FACE), "the methods of the face, not " + open);
        hiddenNames.retainAll(openNames);
        require(hiddenNames.isEmpty(), "no private method with a public one's name: " + hiddenNames);
    }

    private static void checkFields() {
        for (Field field : SharedLog.class.getDeclaredFields()) {
            int modifiers = field.getModifiers();
            require(Modifier.isPrivate(modifiers), field.getName() + " is private");
            require(!Modifier.isStatic(modifiers) || Modifier.isFinal(modifiers), field.getName() + " is final");
        }
    }

    private static void checkClassesInside() {
        Class<?>[] inside = SharedLog.class.getDeclaredClasses();
        require(inside.length < 12, "fewer than twelve classes inside");
        for (Class<?> one : inside) {
            int modifiers = one.getModifiers();
            require(!Modifier.isPublic(modifiers) && !Modifier.isProtected(modifiers), one + " is hidden");
            require(Modifier.isStatic(modifiers), one + " is static");
        }
    }

    private static String signature(Method method) {
        StringBuilder text = new StringBuilder();
        for (Class<?> type : method.getParameterTypes()) {
            text.append(text.length() == 0 ? "" : ",").append(type.getName());
        }
        return method.getReturnType().getName() + " " + method.getName() + "(" + text + ")" + thrown(method);
    }

    private static String thrown(Method method) {
        StringBuilder text = new StringBuilder();
        for (Class<?> type : method.getExceptionTypes()) {
            text.append(text.length() == 0 ? " throws " : ",").append(type.getSimpleName());
        }
        return text.toString();
    }

    private static void require(boolean holds, String what) {
        if (!holds) {
            wrong++;
            System.out.println("it does not hold: " + what);
        }
    }
}
