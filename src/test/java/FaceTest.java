import java.lang.reflect.Constructor;
import java.lang.reflect.Field;
import java.lang.reflect.Method;
import java.lang.reflect.Modifier;
import java.util.Set;
import java.util.TreeSet;

/** The public face: the class's own members are those of the document, and all others are private. */
public final class FaceTest {
    private static final String ARGUMENT = " throws IllegalArgumentException";
    private static final String STATE = " throws IllegalStateException";
    private static final String INDEX = " throws IndexOutOfBoundsException";

    private static final Set<String> FACE = Set.of(
        "int line(int)" + ARGUMENT,
        "int lines(int,int)" + ARGUMENT,
        "int rest(int)" + ARGUMENT,
        "int paper(int)" + ARGUMENT,
        "int set(int,int)" + INDEX + ",IllegalArgumentException",
        "int append(int)" + ARGUMENT + ",IllegalStateException",
        "int clearBuffer()",
        "int firstError()",
        "int print()" + ARGUMENT,
        "int told(int,int)" + ARGUMENT,
        "int undo()" + STATE,
        "int keep()",
        "int restore()" + STATE,
        "int dot(int,int)" + INDEX + ",IllegalArgumentException",
        "int kept(int,int)" + ARGUMENT,
        "int count(int)" + ARGUMENT,
        "int ifPrinted(int,int)" + ARGUMENT,
        "int betterWay(int)" + ARGUMENT,
        "int coolIn(int)" + ARGUMENT,
        "int darkFrom(int)" + INDEX,
        "double darkness()",
        "float meanHeat()",
        "long digest()");

    private static String names(Class<?>[] types) {
        StringBuilder text = new StringBuilder();
        for (Class<?> type : types) {
            text.append(text.length() == 0 ? "" : ",").append(type.getSimpleName());
        }
        return text.toString();
    }

    private static void lookAtMethods() {
        Set<String> seen = new TreeSet<>();
        Set<String> publicNames = new TreeSet<>();
        for (Method method : HeadDots.class.getDeclaredMethods()) {
            if (Modifier.isPublic(method.getModifiers())) {
                String thrown = names(method.getExceptionTypes());
                seen.add(method.getReturnType() + " " + method.getName() + "("
                    + names(method.getParameterTypes()) + ")"
                    + (thrown.isEmpty() ? "" : " throws " + thrown));
                publicNames.add(method.getName());
            }
        }
        Check.dueText("the public methods", new TreeSet<>(FACE).toString(), seen.toString());
        for (Method method : HeadDots.class.getDeclaredMethods()) {
            int modifiers = method.getModifiers();
            if (!Modifier.isPublic(modifiers) && !method.isSynthetic()) {
                Check.due(method + " is private", 1, Modifier.isPrivate(modifiers) ? 1 : 0);
                Check.due(method + " has a public one's name", 0,
                    publicNames.contains(method.getName()) ? 1 : 0);
            }
        }
    }

    private static void lookAtFieldsAndConstructors() {
        for (Field field : HeadDots.class.getDeclaredFields()) {
            if (field.isSynthetic()) {
                continue;
            }
            boolean open = field.getName().equals("NONE");
            Check.due(field + " is public", open ? 1 : 0,
                Modifier.isPublic(field.getModifiers()) ? 1 : 0);
            Check.due(field + " is private", open ? 0 : 1,
                Modifier.isPrivate(field.getModifiers()) ? 1 : 0);
        }
        Constructor<?>[] constructors = HeadDots.class.getDeclaredConstructors();
        Check.due("constructors", 1, constructors.length);
        Check.due("parameters of the constructor", 0, constructors[0].getParameterCount());
        Check.due("the class is public and final", Modifier.PUBLIC | Modifier.FINAL,
            HeadDots.class.getModifiers());
        Check.due("NONE", -1, HeadDots.NONE);
    }

    public static void main(String[] args) {
        lookAtMethods();
        lookAtFieldsAndConstructors();
        Check.end();
    }
}
