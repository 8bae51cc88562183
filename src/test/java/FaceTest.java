import java.lang.reflect.Constructor;
import java.lang.reflect.Field;
import java.lang.reflect.Method;
import java.lang.reflect.Modifier;
import java.util.Arrays;
import java.util.Set;
import java.util.TreeSet;

/** The public face is the document's, with nothing beside it; no private method bears a public name. */
final class FaceTest {
    private static final Checks CHECKS = new Checks();
    private static final String INDEX = "IndexOutOfBoundsException";
    private static final String ARGUMENT = "IllegalArgumentException";
    private static final String MORE = "UnsupportedOperationException";
    private static final String ELEMENT = "NoSuchElementException";

    private static final String[] FACE = {
        face("int", "feed", 5), face("boolean", "end", 1), face("int", "shore", 0, MORE),
        face("int", "rock", 3, INDEX, ARGUMENT, MORE), face("void", "hands", 2, INDEX, ARGUMENT),
        face("int", "rights", 0, ARGUMENT), face("int", "fault", 0), face("boolean", "may", 3, INDEX),
        face("int", "day", 4, ARGUMENT, MORE), face("int", "cut", 4, INDEX, ARGUMENT),
        face("int", "gather", 3, INDEX, ARGUMENT), face("int", "look", 3, INDEX, ELEMENT),
        face("int", "cast", 1, INDEX), face("int", "has", 2, INDEX, ELEMENT), face("int", "owes", 3, INDEX),
        face("int", "pit", 1, INDEX, MORE), face("boolean", "light", 2, INDEX, ARGUMENT),
        face("int", "burns", 1, INDEX), face("int", "sell", 8, INDEX, ARGUMENT),
        face("int", "lot", 2, INDEX, ELEMENT), face("int", "enter", 3, INDEX, ARGUMENT),
        face("boolean", "undo", 1, INDEX), face("int", "balance", 3, INDEX), face("int", "foretell", 3),
        face("int", "plan", 0), face("int", "count", 1),
    };

    public static void main(String[] args) {
        Set<String> methods = new TreeSet<>();
        Set<String> publicNames = new TreeSet<>();
        for (Method each : KelpShores.class.getDeclaredMethods()) {
            if (!Modifier.isPrivate(each.getModifiers())) {
                publicNames.add(each.getName());
                String[] thrown = Arrays.stream(each.getExceptionTypes()).map(Class::getSimpleName)
                        .toArray(String[]::new);
                methods.add(face(each.getReturnType().getName(), each.getName(), each.getParameterCount(), thrown));
            }
        }
        CHECKS.due("the methods " + methods, methods.equals(new TreeSet<>(Arrays.asList(FACE))), true);
        noPrivateNameIsPublic(KelpShores.class, publicNames);
        for (Class<?> inside : KelpShores.class.getDeclaredClasses()) {
            noPrivateNameIsPublic(inside, publicNames);
            CHECKS.due(inside + " is static", Modifier.isStatic(inside.getModifiers()), true);
        }
        CHECKS.due("final", Modifier.isFinal(KelpShores.class.getModifiers()), true);
        Constructor<?>[] constructors = KelpShores.class.getConstructors();
        CHECKS.due("one constructor", KelpShores.class.getDeclaredConstructors().length, 1);
        CHECKS.due("it is public", constructors.length, 1);
        for (Field each : KelpShores.class.getDeclaredFields()) {
            boolean none = each.getName().equals("NONE");
            CHECKS.due(each + " is public", Modifier.isPublic(each.getModifiers()), none);
            CHECKS.due(each + " is private", Modifier.isPrivate(each.getModifiers()), !none);
        }
        CHECKS.close();
    }

    private static void noPrivateNameIsPublic(Class<?> place, Set<String> publicNames) {
        for (Method each : place.getDeclaredMethods()) {
            boolean face = place == KelpShores.class && Modifier.isPublic(each.getModifiers());
            CHECKS.due(each + " bears a public name", !face && publicNames.contains(each.getName()), false);
        }
    }

    private static String face(String answer, String name, int parameters, String... thrown) {
        return answer + " " + name + "/" + parameters + " " + Arrays.toString(thrown);
    }
}
