import java.lang.reflect.Constructor;
import java.lang.reflect.Field;
import java.lang.reflect.Method;
import java.lang.reflect.Modifier;
import java.util.Set;
import java.util.TreeSet;

/** The public face, as the document gives it, and no other member that can be seen from outside. */
public final class FaceTest {
    private static final String[] FACE = {
        "int come() throws IllegalStateException",
        "int put(int, int, int) throws IndexOutOfBoundsException IllegalArgumentException",
        "int swap(int, int, int) throws IndexOutOfBoundsException",
        "int sum(int, int) throws IndexOutOfBoundsException",
        "int told(int, int) throws IndexOutOfBoundsException",
        "int thing(int, int) throws IndexOutOfBoundsException",
        "int seal(int) throws IndexOutOfBoundsException IllegalStateException",
        "int about(int, int) throws IndexOutOfBoundsException",
        "int proof(int, int, int) throws IndexOutOfBoundsException",
        "int comes(int, int, int, int, int, int) throws IndexOutOfBoundsException IllegalArgumentException",
        "boolean proves(int, int, int) throws IndexOutOfBoundsException IllegalArgumentException",
        "int differ(int, int) throws IndexOutOfBoundsException",
        "int looks(int, int) throws IndexOutOfBoundsException",
        "int mend(int, int) throws IndexOutOfBoundsException",
        "int swapped(int) throws IndexOutOfBoundsException",
        "int count(int) throws IndexOutOfBoundsException",
        "double mean()",
        "long digest()",
    };

    public static void main(String[] args) {
        Checks checks = new Checks();
        Class<?> room = SealedCupboards.class;
        checks.same("the class", "public final", Modifier.toString(room.getModifiers()));
        checks.same("the methods", new TreeSet<>(Set.of(FACE)).toString(), seenMethods(room).toString());
        Constructor<?>[] constructors = room.getDeclaredConstructors();
        checks.same("the constructors", "1", String.valueOf(constructors.length));
        checks.same("the constructor", "public SealedCupboards()", constructors[0].toString());
        for (Field field : room.getDeclaredFields()) {
            checks.same("the field " + field.getName(), "true", String.valueOf(Modifier.isPrivate(field.getModifiers())));
        }
        checks.end("FaceTest");
    }

    private static Set<String> seenMethods(Class<?> room) {
        Set<String> seen = new TreeSet<>();
        for (Method method : room.getDeclaredMethods()) {
            if (!Modifier.isPrivate(method.getModifiers())) {
                seen.add(signature(method));
            }
        }
        return seen;
    }

    private static String signature(Method method) {
        StringBuilder text = new StringBuilder(method.getReturnType() + " " + method.getName() + "(");
        for (Class<?> type : method.getParameterTypes()) {
            text.append(text.charAt(text.length() - 1) == '(' ? "" : ", ").append(type);
        }
        text.append(")");
        for (Class<?> type : method.getExceptionTypes()) {
            text.append(text.charAt(text.length() - 1) == ')' ? " throws " : " ").append(type.getSimpleName());
        }
        return text.toString();
    }
}
