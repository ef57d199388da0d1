import java.lang.reflect.Constructor;
import java.lang.reflect.Field;
import java.lang.reflect.Method;
import java.lang.reflect.Modifier;
import java.util.List;
import java.util.Set;
import java.util.TreeSet;

/** The public face: just the constructor and the methods that the document shows, and what they say they throw. */
public final class FaceTest {
    private static final String BAD = " throws IllegalArgumentException";
    private static final String BAD_OR_STATE = BAD + ", IllegalStateException";

    private static final List<String> FACE = List.of(
            "int text(long)" + BAD_OR_STATE,
            "int tariff(int)" + BAD,
            "int where()",
            "long use(int, int)" + BAD,
            "int subscribe(int, int)" + BAD,
            "boolean pause(int, boolean)" + BAD_OR_STATE,
            "int event(int, int, int, int)" + BAD + ", IndexOutOfBoundsException, IllegalStateException",
            "int tick(int)" + BAD_OR_STATE,
            "int run()",
            "long pay(int, long)" + BAD,
            "int plan(int, long, int)" + BAD_OR_STATE,
            "long charge(int, int)" + BAD,
            "long invoice(int, int) throws NoSuchElementException, IllegalArgumentException",
            "long told(int, int)" + BAD,
            "long books(int)" + BAD,
            "int date(int, int)" + BAD,
            "int count(int)" + BAD);

    public static void main(String[] args) {
        Checks.sentence("public final class BillForge");
        Checks.due("public and final", BillForge.class.getModifiers(), Modifier.PUBLIC | Modifier.FINAL);
        Checks.due("extends nothing", BillForge.class.getSuperclass() == Object.class, true);
        Checks.due("implements nothing", BillForge.class.getInterfaces().length, 0);
        constructor();
        methods();
        nothingElseIsSeen();
        Checks.finish();
    }

    private static void constructor() {
        Constructor<?>[] all = BillForge.class.getDeclaredConstructors();
        Checks.due("constructors", all.length, 1);
        Checks.due("its modifiers", all[0].getModifiers(), Modifier.PUBLIC);
        Checks.due("its parameters", all[0].getParameterCount(), 0);
    }

    private static void methods() {
        Set<String> seen = new TreeSet<>();
        for (Method method : BillForge.class.getDeclaredMethods()) {
            if (!Modifier.isPrivate(method.getModifiers())) {
                Checks.due("modifiers of " + method.getName(), method.getModifiers(), Modifier.PUBLIC);
                seen.add(shown(method));
            } else {
                Checks.due(method.getName() + " bears the name of a public one", isOfFace(method.getName()), false);
            }
        }
        for (String due : FACE) {
            Checks.due("there is " + due, seen.remove(due), true);
        }
        Checks.due("methods beside the face: " + seen, seen.size(), 0);
    }

    private static boolean isOfFace(String name) {
        return FACE.stream().anyMatch(due -> due.contains(" " + name + "("));
    }

    private static String shown(Method method) {
        String parameters = names(method.getParameterTypes());
        String thrown = names(method.getExceptionTypes());
        return method.getReturnType() + " " + method.getName() + "(" + parameters + ")"
                + (thrown.isEmpty() ? "" : " throws " + thrown);
    }

    private static String names(Class<?>[] types) {
        return String.join(", ", List.of(types).stream().map(Class::getSimpleName).toList());
    }

    private static void nothingElseIsSeen() {
        for (Field field : BillForge.class.getDeclaredFields()) {
            Checks.due(field.getName() + " is private", Modifier.isPrivate(field.getModifiers()), true);
        }
        for (Class<?> inside : BillForge.class.getDeclaredClasses()) {
            Checks.due(inside.getSimpleName() + " is static", Modifier.isStatic(inside.getModifiers()), true);
            Checks.due(inside.getSimpleName() + " is public", Modifier.isPublic(inside.getModifiers()), false);
        }
    }
}
