import java.lang.reflect.Constructor;
import java.lang.reflect.Field;
import java.lang.reflect.Method;
import java.lang.reflect.Modifier;
import java.util.Arrays;
import java.util.Set;
import java.util.TreeSet;

/** The public face: every member of the document, and no other that can be seen from outside. */
public final class FaceTest {
    private static final String INDEX = "IndexOutOfBoundsException";
    private static final String STATE = "IllegalStateException";
    private static final String ARGUMENT = "IllegalArgumentException";

    private static final String[] METHODS = {
        "boolean access(int,int,long,long) throws " + INDEX + "," + STATE,
        "boolean bar(int,long,long,long,long) throws " + INDEX + "," + ARGUMENT,
        "boolean joined(int) throws " + INDEX + "," + STATE,
        "boolean rule(int,int,long) throws " + INDEX + "," + ARGUMENT,
        "boolean shield(int) throws " + INDEX,
        "int broken(int) throws " + INDEX + "," + STATE,
        "int chosen(int) throws " + INDEX + "," + STATE,
        "int count(int) throws " + INDEX,
        "int history(int,long,long) throws " + INDEX + "," + STATE,
        "int net() throws " + STATE,
        "int open(int,int) throws " + INDEX + "," + STATE,
        "int piece(int,int,int) throws " + INDEX + "," + STATE,
        "int pin(int) throws " + INDEX + "," + STATE,
        "int run(int) throws " + ARGUMENT,
    };

    public static void main(String[] args) {
        Checks checks = new Checks();
        Set<String> seen = new TreeSet<>();
        Set<String> faceNames = new TreeSet<>();
        for (Method method : TrackRoutes.class.getDeclaredMethods()) {
            if (Modifier.isPublic(method.getModifiers())) {
                seen.add(shape(method));
                checks.due(method.getName() + " is static", Modifier.isStatic(method.getModifiers()), false);
                faceNames.add(method.getName());
            }
        }
        checks.due("public methods", seen, new TreeSet<>(Arrays.asList(METHODS)));
        for (Method method : TrackRoutes.class.getDeclaredMethods()) {
            if (!Modifier.isPublic(method.getModifiers())) {
                checks.due(method.getName() + " is private", Modifier.isPrivate(method.getModifiers()), true);
                checks.due(method.getName() + " bears a public name", faceNames.contains(method.getName()), false);
            }
        }
        for (Field field : TrackRoutes.class.getDeclaredFields()) {
            boolean isNone = field.getName().equals("NONE");
            int modifiers = field.getModifiers();
            checks.due(field.getName() + " is hidden", Modifier.isPrivate(modifiers), !isNone);
            checks.due(field.getName() + " is public", Modifier.isPublic(modifiers), isNone);
            checks.due(field.getName() + " changes for all objects",
                Modifier.isStatic(modifiers) && !Modifier.isFinal(modifiers), false);
        }
        for (Class<?> inside : TrackRoutes.class.getDeclaredClasses()) {
            checks.due(inside.getName() + " is static", Modifier.isStatic(inside.getModifiers()), true);
            checks.due(inside.getName() + " is public", Modifier.isPublic(inside.getModifiers()), false);
            checks.due(inside.getName() + " has few fields", inside.getDeclaredFields().length <= 22, true);
        }
        Constructor<?>[] constructors = TrackRoutes.class.getDeclaredConstructors();
        checks.due("constructors", constructors.length, 1);
        checks.due("constructor", Arrays.toString(constructors[0].getParameterTypes()), "[int, long, long]");
        checks.due("public constructor", Modifier.isPublic(constructors[0].getModifiers()), true);
        checks.due("public class", Modifier.isPublic(TrackRoutes.class.getModifiers()), true);
        checks.due("of Object alone", TrackRoutes.class.getSuperclass() == Object.class
            && TrackRoutes.class.getInterfaces().length == 0, true);
        checks.due("final class", Modifier.isFinal(TrackRoutes.class.getModifiers()), true);
        checks.due("NONE", TrackRoutes.NONE, -1);
        checks.end("FaceTest");
    }

    private static String shape(Method method) {
        StringBuilder text = new StringBuilder(method.getReturnType() + " " + method.getName() + "(");
        String comma = "";
        for (Class<?> type : method.getParameterTypes()) {
            text.append(comma).append(type);
            comma = ",";
        }
        text.append(") throws ");
        comma = "";
        for (Class<?> thrown : method.getExceptionTypes()) {
            text.append(comma).append(thrown.getSimpleName());
            comma = ",";
        }
        return text.toString();
    }
}
