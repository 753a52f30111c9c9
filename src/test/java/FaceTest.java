import java.lang.reflect.Constructor;
import java.lang.reflect.Field;
import java.lang.reflect.Method;
import java.lang.reflect.Modifier;
import java.util.Arrays;
import java.util.Set;
import java.util.TreeSet;

/** The public face: just the members of the document, and no private method with the name of a public one. */
public final class FaceTest {
    private static final String FACE = "[asked(int) int, count(int) int, drop(int) boolean, kept(int) int, "
            + "line() int, look(int) int, many() int, realm() int, used(int) int, write(char) boolean]";

    public static void main(String[] args) {
        Class<?> face = RealmDesk.class;
        int modifiers = Modifier.PUBLIC | Modifier.FINAL;
        Desk.due("modifiers of the class", face.getModifiers(), modifiers);
        checkMethods(face);
        checkConstructors(face);
        for (Field field : face.getDeclaredFields()) {
            Desk.due("private field " + field, Modifier.isPrivate(field.getModifiers()) ? 1 : 0, 1);
        }
        for (Class<?> inside : face.getDeclaredClasses()) {
            boolean good = Modifier.isStatic(inside.getModifiers())
                    && !Modifier.isPublic(inside.getModifiers())
                    && !Modifier.isProtected(inside.getModifiers());
            Desk.due("static and not public: " + inside, good ? 1 : 0, 1);
        }
        Desk.end();
    }

    private static void checkMethods(Class<?> face) {
        Set<String> open = new TreeSet<>();
        Set<String> openNames = new TreeSet<>();
        for (Method method : face.getDeclaredMethods()) {
            if (!Modifier.isPrivate(method.getModifiers())) {
                open.add(signature(method));
                openNames.add(method.getName());
            }
        }
        if (!open.toString().equals(FACE)) {
            System.out.println("the face is " + open);
        }
        Desk.due("face is the document's", open.toString().equals(FACE) ? 1 : 0, 1);
        for (Method method : face.getDeclaredMethods()) {
            boolean shared = Modifier.isPrivate(method.getModifiers()) && openNames.contains(method.getName());
            Desk.due("private method with a public name: " + method, shared ? 1 : 0, 0);
        }
    }

    private static void checkConstructors(Class<?> face) {
        Constructor<?>[] made = face.getDeclaredConstructors();
        Desk.due("constructors", made.length, 1);
        Desk.due("parameters of the constructor", made[0].getParameterCount(), 0);
        Desk.due("public constructor", Modifier.isPublic(made[0].getModifiers()) ? 1 : 0, 1);
    }

    private static String signature(Method method) {
        String types = Arrays.toString(method.getParameterTypes()).replace("[", "(").replace("]", ")");
        return method.getName() + types + " " + method.getReturnType();
    }
}
