import java.lang.reflect.Constructor;
import java.lang.reflect.Field;
import java.lang.reflect.Method;
import java.lang.reflect.Modifier;
import java.util.Arrays;
import java.util.Set;
import java.util.TreeSet;
import java.util.stream.Collectors;

/** The class shows the document's face and nothing else. */
public final class FaceTest {
    private static final String[] FACE = {
        "boolean back(int, int)", "boolean buy(int, int, int)", "boolean count(int, int, int)",
        "boolean move(int, int, int)", "boolean name(int, int, int)", "boolean strike(int, int)",
        "boolean view(int, int)", "int about(int)", "int deed(int, int, int)", "int device(int)",
        "int keeps(int)", "int knows(int, int, int, int)", "int meet(int, int)",
        "int put(int, int, int)", "int row(int, int)", "int rows()", "int thing(int, int)",
        "int undo(int)",
    };

    public static void main(String[] args) {
        Checks checks = new Checks();
        checks.part("the face");
        checks.yes("public final", PocketList.class.getModifiers() == (Modifier.PUBLIC | Modifier.FINAL));
        Set<String> methods = new TreeSet<>();
        for (Method method : PocketList.class.getDeclaredMethods()) {
            if (!Modifier.isPrivate(method.getModifiers())) {
                checks.yes(method + " is public", Modifier.isPublic(method.getModifiers()));
                checks.no(method + " is static", Modifier.isStatic(method.getModifiers()));
                methods.add(textOf(method));
            }
        }
        checks.yes("methods " + methods, methods.equals(new TreeSet<>(Arrays.asList(FACE))));
        for (Field field : PocketList.class.getDeclaredFields()) {
            boolean isNone = field.getName().equals("NONE");
            checks.yes(field.toString(), isNone || Modifier.isPrivate(field.getModifiers()));
        }
        Constructor<?>[] makers = PocketList.class.getDeclaredConstructors();
        checks.due("constructors", 1, makers.length);
        checks.yes("constructor " + makers[0], Modifier.isPublic(makers[0].getModifiers())
                && Arrays.equals(makers[0].getParameterTypes(), new Class<?>[] {int.class}));
        checks.due("NONE", -1, PocketList.NONE);
        checks.end();
    }

    private static String textOf(Method method) {
        return method.getReturnType() + " " + method.getName() + Arrays.stream(method.getParameterTypes())
                .map(Class::getName).collect(Collectors.joining(", ", "(", ")"));
    }
}
