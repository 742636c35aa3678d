import java.lang.reflect.Constructor;
import java.lang.reflect.Field;
import java.lang.reflect.Method;
import java.lang.reflect.Modifier;
import java.util.Arrays;
import java.util.Set;
import java.util.TreeSet;

/** The public face as the document prints it, and no other member that can be seen. */
final class FaceTest {
    private static final String INDEX = " throws IndexOutOfBoundsException";
    private static final String ARGUMENT = " throws IllegalArgumentException";
    private static final String INDEX_ARGUMENT = INDEX + ", IllegalArgumentException";
    private static final String INDEX_STATE = INDEX + ", IllegalStateException";
    private static final String[] FACE = {
        "int setCold(int, int)" + INDEX_ARGUMENT,
        "int setSwan(int, int)" + INDEX_ARGUMENT,
        "int setFare(boolean, int)" + ARGUMENT,
        "int bus(int, boolean)" + INDEX_STATE,
        "int fit(int, int)" + INDEX_STATE,
        "boolean park(int)" + INDEX,
        "int told(int, int)" + INDEX,
        "int span(int, int)" + INDEX,
        "int order(int)" + INDEX_STATE,
        "int cancel(int)" + INDEX_STATE,
        "int gang(int)" + INDEX,
        "int count(int)" + INDEX,
        "int pass(int)" + ARGUMENT,
        "int falls(int)" + INDEX,
        "int foresee(int, int)" + ARGUMENT + ", IndexOutOfBoundsException",
        "int advise(int)" + ARGUMENT,
        "double mean()",
        "long digest()",
    };

    public static void main(String[] args) {
        Set<String> publicNames = methods();
        fieldsAndConstructors();
        classesInside(publicNames);
        Check.end("FaceTest");
    }

    private static Set<String> methods() {
        Set<String> due = new TreeSet<>(Arrays.asList(FACE));
        Set<String> got = new TreeSet<>();
        Set<String> publicNames = new TreeSet<>();
        Set<String> privateNames = new TreeSet<>();
        for (Method method : TrolleyGang.class.getDeclaredMethods()) {
            if (Modifier.isPrivate(method.getModifiers())) {
                privateNames.add(method.getName());
            } else {
                got.add(text(method));
                publicNames.add(method.getName());
                Check.holds(method + " is public and of the object",
                        Modifier.isPublic(method.getModifiers()) && !Modifier.isStatic(method.getModifiers()));
            }
        }
        Check.holds("the face is " + got + ", due is " + due, got.equals(due));
        privateNames.retainAll(publicNames);
        Check.holds("private methods with names of public ones: " + privateNames, privateNames.isEmpty());
        return publicNames;
    }

    private static void fieldsAndConstructors() {
        int modifiers = TrolleyGang.class.getModifiers();
        Check.holds("the class is public and final", Modifier.isPublic(modifiers) && Modifier.isFinal(modifiers));
        Constructor<?>[] constructors = TrolleyGang.class.getDeclaredConstructors();
        Check.holds("one constructor, public, without parameters", constructors.length == 1
                && Modifier.isPublic(constructors[0].getModifiers()) && constructors[0].getParameterCount() == 0);
        for (Field field : TrolleyGang.class.getDeclaredFields()) {
            Check.holds(field + " is private", Modifier.isPrivate(field.getModifiers()));
        }
    }

    private static void classesInside(Set<String> publicNames) {
        for (Class<?> inside : TrolleyGang.class.getDeclaredClasses()) {
            int modifiers = inside.getModifiers();
            Check.holds(inside + " is private or package-visible, and static", !Modifier.isPublic(modifiers)
                    && !Modifier.isProtected(modifiers) && Modifier.isStatic(modifiers));
            for (Method method : inside.getDeclaredMethods()) {
                Check.holds(method + " bears a name of its own", !Modifier.isPrivate(method.getModifiers())
                        || !publicNames.contains(method.getName()));
            }
        }
    }

    private static String text(Method method) {
        return method.getReturnType().getSimpleName() + " " + method.getName()
                + "(" + names(method.getParameterTypes()) + ")"
                + (method.getExceptionTypes().length == 0 ? "" : " throws " + names(method.getExceptionTypes()));
    }

    private static String names(Class<?>[] types) {
        StringBuilder text = new StringBuilder();
        for (Class<?> type : types) {
            text.append(text.length() == 0 ? "" : ", ").append(type.getSimpleName());
        }
        return text.toString();
    }
}
