import java.lang.reflect.Constructor;
import java.lang.reflect.Field;
import java.lang.reflect.Method;
import java.lang.reflect.Modifier;
import java.util.Set;
import java.util.TreeSet;

/** The class shows the document's face and nothing else. */
final class FaceTest {
    private static final Checks CHECKS = new Checks();
    private static final Set<String> FACE = Set.of(
        "int polygon()", "boolean corner(int,long,long)", "int kernel(int,int)", "int cut(int)",
        "int image(int,int)", "int error(int)", "int run(int,int,int,int)", "int moved(int)",
        "int worst(int)", "int helper(int,int)", "boolean prints(int,int)", "int edge(int,int)",
        "boolean alike(int,int)", "int shift(int,int)", "boolean is(int,int,int)");

    public static void main(String[] args) {
        CHECKS.due("public and final",
            (MaskEdges.class.getModifiers() & (Modifier.PUBLIC | Modifier.FINAL))
                == (Modifier.PUBLIC | Modifier.FINAL), true);
        methods();
        Constructor<?>[] made = MaskEdges.class.getDeclaredConstructors();
        CHECKS.due("constructors", made.length, 1);
        CHECKS.due("its parameters", made[0].getParameterCount(), 0);
        CHECKS.due("it is public", Modifier.isPublic(made[0].getModifiers()), true);
        fields();
        for (Class<?> inside : MaskEdges.class.getDeclaredClasses()) {
            CHECKS.due(inside.getName() + " is static", Modifier.isStatic(inside.getModifiers()), true);
            CHECKS.due(inside.getName() + " is public", Modifier.isPublic(inside.getModifiers()), false);
        }
        CHECKS.finish();
    }

    private static void methods() {
        Set<String> shown = new TreeSet<>();
        Set<String> names = new TreeSet<>();
        for (Method method : MaskEdges.class.getDeclaredMethods()) {
            if (Modifier.isPublic(method.getModifiers())) {
                shown.add(method.getReturnType() + " " + method.getName() + parameters(method));
                names.add(method.getName());
            }
        }
        CHECKS.due("public methods " + shown, shown.equals(new TreeSet<>(FACE)), true);
        for (Method method : MaskEdges.class.getDeclaredMethods()) {
            if (!Modifier.isPublic(method.getModifiers())) {
                CHECKS.due(method + " is private", Modifier.isPrivate(method.getModifiers()), true);
                CHECKS.due(method + " has a public name", names.contains(method.getName()), false);
            }
        }
    }

    private static String parameters(Method method) {
        StringBuilder text = new StringBuilder("(");
        for (Class<?> type : method.getParameterTypes()) {
            text.append(text.length() > 1 ? "," : "").append(type);
        }
        return text.append(")").toString();
    }

    private static void fields() {
        for (Field field : MaskEdges.class.getDeclaredFields()) {
            int modifiers = field.getModifiers();
            CHECKS.due(field + " is private", Modifier.isPrivate(modifiers), true);
            CHECKS.due(field + " is final if it is static",
                !Modifier.isStatic(modifiers) || Modifier.isFinal(modifiers), true);
        }
    }
}
