import java.lang.reflect.Constructor;
import java.lang.reflect.Field;
import java.lang.reflect.Method;
import java.lang.reflect.Modifier;
import java.util.Arrays;
import java.util.List;
import java.util.TreeSet;

/** The public face, and what LANGUAGE.md asks of members (its rules 1 and 5). */
public final class FaceTest {
    private static final String BOUNDS = " IndexOutOfBoundsException";
    private static final String ARGUMENT = " IllegalArgumentException";
    private static final String STATE = " IllegalStateException";

    private static final List<String> FACE = List.of(
            "int asset()" + STATE,
            "int version(int,int)" + BOUNDS + ARGUMENT + STATE,
            "int late(int,int)" + BOUNDS + ARGUMENT + STATE,
            "int rights(int,int,int,int)" + BOUNDS + ARGUMENT,
            "int versionOn(int,int)" + BOUNDS + ARGUMENT,
            "boolean hasRights(int,int,int)" + BOUNDS + ARGUMENT,
            "int piece(int,int)" + ARGUMENT + STATE,
            "boolean approve(int,int)" + BOUNDS + STATE,
            "boolean hold(int,int)" + BOUNDS,
            "int reason(int,int,int)" + BOUNDS + ARGUMENT,
            "boolean isFit(int,int,int)" + BOUNDS + ARGUMENT,
            "int ofPiece(int,int)" + BOUNDS + ARGUMENT,
            "int book(int,int,int,int,int,int)" + BOUNDS + ARGUMENT + STATE,
            "int cancel(int)" + BOUNDS + STATE,
            "int swap(int,int)" + BOUNDS + STATE,
            "int ofBooking(int,int)" + BOUNDS + ARGUMENT,
            "int day()" + STATE,
            "int at(int,int,int)" + BOUNDS + ARGUMENT,
            "int many(int)" + ARGUMENT,
            "double meanPrice()",
            "int groups(int,int,int)" + BOUNDS + ARGUMENT,
            "int reach(int)" + BOUNDS,
            "int price(int,int,int)" + ARGUMENT,
            "int swapFor(int)" + BOUNDS,
            "int offIn(int)" + BOUNDS,
            "int lostIn(int)" + ARGUMENT,
            "int reachWith(int)" + BOUNDS,
            "long digest()");

    private static final Check check = new Check("FaceTest");

    public static void main(String[] args) {
        check.promise("the public face");
        Class<?> room = BrandRoom.class;
        check.due("the class is public and final", Modifier.isPublic(room.getModifiers())
                && Modifier.isFinal(room.getModifiers()), true);
        TreeSet<String> open = new TreeSet<>();
        TreeSet<String> names = new TreeSet<>();
        for (Method method : room.getDeclaredMethods()) {
            if (!Modifier.isPrivate(method.getModifiers())) {
                check.due(method + " is public and no more",
                        (method.getModifiers() & ~Modifier.PUBLIC) == 0, true);
                open.add(told(method));
                names.add(method.getName());
            }
        }
        TreeSet<String> due = new TreeSet<>(FACE);
        check.due("the methods " + open + " are " + due, open.equals(due), true);
        for (Method method : room.getDeclaredMethods()) {
            if (Modifier.isPrivate(method.getModifiers())) {
                check.due(method + " bears a public name", names.contains(method.getName()), false);
            }
        }
        Constructor<?>[] constructors = room.getDeclaredConstructors();
        check.due("constructors", constructors.length, 1);
        check.due("the constructor is public, without parameters",
                Modifier.isPublic(constructors[0].getModifiers()) && constructors[0].getParameterCount() == 0, true);
        fields(room);
        for (Class<?> inside : room.getDeclaredClasses()) {
            check.due(inside + " is static", Modifier.isStatic(inside.getModifiers()), true);
            check.due(inside + " is public", Modifier.isPublic(inside.getModifiers()), false);
            fields(inside);
        }
        check.end();
    }

    private static String told(Method method) {
        StringBuilder text = new StringBuilder();
        text.append(method.getReturnType().getName()).append(' ').append(method.getName()).append('(');
        Class<?>[] parameters = method.getParameterTypes();
        for (int i = 0; i < parameters.length; i++) {
            text.append(i == 0 ? "" : ",").append(parameters[i].getName());
        }
        text.append(')');
        Arrays.stream(method.getExceptionTypes()).forEach(e -> text.append(' ').append(e.getSimpleName()));
        return text.toString();
    }

    private static void fields(Class<?> owner) {
        for (Field field : owner.getDeclaredFields()) {
            check.due(field + " is private", Modifier.isPrivate(field.getModifiers()), true);
            if (Modifier.isStatic(field.getModifiers())) {
                check.due(field + " is final", Modifier.isFinal(field.getModifiers()), true);
            }
        }
    }
}
