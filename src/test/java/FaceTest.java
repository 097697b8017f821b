import java.lang.reflect.Constructor;
import java.lang.reflect.Field;
import java.lang.reflect.Method;
import java.lang.reflect.Modifier;
import java.util.Arrays;
import java.util.Set;
import java.util.TreeSet;

/** The public face: every member of the document, and no other that can be seen from outside. */
public final class FaceTest {
    private static final String[] METHODS = {
        "boolean access(int,int,long,long)",
        "boolean bar(int,long,long,long,long)",
        "boolean joined(int)",
        "boolean rule(int,int,long)",
        "boolean shield(int)",
        "int broken(int)",
        "int chosen(int)",
        "int count(int)",
        "int history(int,long,long)",
        "int net()",
        "int open(int,int)",
        "int piece(int,int,int)",
        "int pin(int)",
        "int run(int)",
    };

    public static void main(String[] args) {
        Checks checks = new Checks();
        Set<String> seen = new TreeSet<>();
        Set<String> faceNames = new TreeSet<>();
        for (Method method : TrackRoutes.class.getDeclaredMethods()) {
            if (Modifier.isPublic(method.getModifiers())) {
                seen.add(shape(method));
                faceNames.add(method.getName());
            }
        }
        checks.due("public methods", seen, new TreeSet<>(Arrays.asList(METHODS)));
        for (Method method : TrackRoutes.class.getDeclaredMethods()) {
            if (!Modifier.isPublic(method.getModifiers())) {
                checks.due(method.getName() + " is private", Modifier.isPrivate(method.getModifiers()), true);
                checks.due(method.getName() + " bears a public name", faceNames.contains(method.getName()), false);
            }
        }
        for (Field field : TrackRoutes.class.getDeclaredFields()) {
            boolean isNone = field.getName().equals("NONE");
            int modifiers = field.getModifiers();
            checks.due(field.getName() + " is hidden", Modifier.isPrivate(modifiers), !isNone);
            checks.due(field.getName() + " is public", Modifier.isPublic(modifiers), isNone);
        }
        for (Class<?> inside : TrackRoutes.class.getDeclaredClasses()) {
            checks.due(inside.getName() + " is static", Modifier.isStatic(inside.getModifiers()), true);
            checks.due(inside.getName() + " is public", Modifier.isPublic(inside.getModifiers()), false);
            checks.due(inside.getName() + " has few fields", inside.getDeclaredFields().length <= 22, true);
        }
        Constructor<?>[] constructors = TrackRoutes.class.getDeclaredConstructors();
        checks.due("constructors", constructors.length, 1);
        checks.due("constructor", Arrays.toString(constructors[0].getParameterTypes()), "[int, long, long]");
        checks.due("final class", Modifier.isFinal(TrackRoutes.class.getModifiers()), true);
        checks.due("NONE", TrackRoutes.NONE, -1);
        checks.end("FaceTest");
    }

    private static String shape(Method method) {
        StringBuilder text = new StringBuilder(method.getReturnType() + " " + method.getName() + "(");
        String comma = "";
        for (Class<?> type : method.getParameterTypes()) {
            text.append(comma).append(type);
            comma = ",";
        }
        return text.append(")").toString();
    }
}
