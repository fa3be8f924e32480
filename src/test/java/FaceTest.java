import java.lang.reflect.Constructor;
import java.lang.reflect.Field;
import java.lang.reflect.Method;
import java.lang.reflect.Modifier;
import java.util.Arrays;
import java.util.List;
import java.util.TreeSet;

/** The public face is the document's and nothing else of the class can be seen from outside. */
public final class FaceTest {
    private static final List<String> DOCUMENT = List.of(
        "int desk() IllegalStateException",
        "int person() IllegalStateException",
        "int wish(int,int,int) IllegalArgumentException",
        "boolean bar(int,int,boolean) IllegalArgumentException",
        "int sits(int,int) IllegalArgumentException,IllegalStateException",
        "int seat()",
        "int deskOf(int) IllegalArgumentException",
        "int moved()",
        "int steps() IllegalStateException",
        "int step(int,int) IllegalArgumentException,IllegalStateException",
        "int settle() IllegalStateException",
        "int worthOf(int) IllegalArgumentException,IllegalStateException",
        "int room(int) IllegalArgumentException,IllegalStateException",
        "int book(int,int,int) IllegalArgumentException,IllegalStateException",
        "boolean cancel(int) IllegalArgumentException",
        "int roomOf(int) IllegalArgumentException",
        "int inside(int,int) IllegalArgumentException",
        "int gap(int,int,int) IllegalArgumentException",
        "int waste()");

    private FaceTest() {
    }

    public static void main(String[] args) {
        Checks.due("class modifiers", Modifier.PUBLIC | Modifier.FINAL, () -> DeskMoves.class.getModifiers());
        Checks.due("NONE", -1, () -> DeskMoves.NONE);
        methods();
        fields();
        constructors();
        nestedClasses();
        Checks.end();
    }

    private static void methods() {
        TreeSet<String> seen = new TreeSet<>();
        TreeSet<String> hidden = new TreeSet<>();
        for (Method method : DeskMoves.class.getDeclaredMethods()) {
            if (Modifier.isPrivate(method.getModifiers())) {
                hidden.add(method.getName());
            } else {
                seen.add(written(method));
            }
        }
        Checks.told("methods", new TreeSet<>(DOCUMENT).toString(), seen.toString());
        for (Method method : DeskMoves.class.getMethods()) {
            Checks.due("a private method named " + method.getName(), false, hidden.contains(method.getName()));
        }
    }

    private static String written(Method method) {
        String parameters = names(method.getParameterTypes());
        String thrown = names(method.getExceptionTypes());
        String head = method.getReturnType().getSimpleName() + " " + method.getName() + "(" + parameters + ")";
        return thrown.isEmpty() ? head : head + " " + thrown;
    }

    private static String names(Class<?>[] types) {
        return String.join(",", Arrays.stream(types).map(Class::getSimpleName).toList());
    }

    private static void fields() {
        for (Field field : DeskMoves.class.getDeclaredFields()) {
            boolean constant = field.getName().equals("NONE");
            Checks.due("field " + field.getName() + " is private", !constant, Modifier.isPrivate(field.getModifiers()));
        }
    }

    private static void constructors() {
        Constructor<?>[] all = DeskMoves.class.getDeclaredConstructors();
        Checks.due("constructors", 1, () -> all.length);
        Checks.due("the constructor is public", Modifier.PUBLIC, () -> all[0].getModifiers());
        Checks.due("its parameters", 0, () -> all[0].getParameterCount());
    }

    private static void nestedClasses() {
        for (Class<?> nested : DeskMoves.class.getDeclaredClasses()) {
            int modifiers = nested.getModifiers();
            Checks.due(nested.getName() + " is static", true, Modifier.isStatic(modifiers));
            Checks.due(nested.getName() + " is seen", false,
                Modifier.isPublic(modifiers) || Modifier.isProtected(modifiers));
        }
    }
}
