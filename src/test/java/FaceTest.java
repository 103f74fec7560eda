import java.lang.reflect.Constructor;
import java.lang.reflect.Field;
import java.lang.reflect.Method;
import java.lang.reflect.Modifier;
import java.util.Arrays;
import java.util.List;
import java.util.Set;
import java.util.TreeSet;

/** The public face: the document's members, and no others that can be seen from outside. */
public final class FaceTest {
    private static final List<String> METHODS = List.of(
            "row 5", "dropRow 1", "index 2", "analyse 0", "rowOf 2", "known 2", "statement 0", "statementOf 2",
            "run 5", "latest 1", "pin 2", "drop 1", "set 2", "planOf 2", "planFor 2", "dropsNext 1", "count 1",
            "classOf 5", "way 5", "bestCost 0", "undo 0", "type 1", "clearText 0", "fault 1");
    private static final Set<String> CONSTANTS =
            Set.of("INVALID_ARGUMENT", "NOT_POSSIBLE", "LIMIT_REACHED", "NOT_FOUND");

    public static void main(String[] args) {
        Due due = new Due("FaceTest");
        due.promise(1, "the face");
        due.is("INVALID_ARGUMENT", -1, PlanShelves.INVALID_ARGUMENT);
        due.is("NOT_POSSIBLE", -2, PlanShelves.NOT_POSSIBLE);
        due.is("LIMIT_REACHED", -3, PlanShelves.LIMIT_REACHED);
        due.is("NOT_FOUND", -4, PlanShelves.NOT_FOUND);
        int modifiers = PlanShelves.class.getModifiers();
        due.is("public final class", 1, Modifier.isPublic(modifiers) && Modifier.isFinal(modifiers) ? 1 : 0);
        methods(due);
        fields(due);
        constructors(due);
        due.end();
    }

    private static void methods(Due due) {
        Set<String> seen = new TreeSet<>();
        for (Method method : PlanShelves.class.getDeclaredMethods()) {
            if (!Modifier.isPrivate(method.getModifiers())) {
                boolean ints = Arrays.stream(method.getParameterTypes()).allMatch(type -> type == int.class);
                due.is(method + " is public, of ints", 1, Modifier.isPublic(method.getModifiers())
                        && !Modifier.isStatic(method.getModifiers()) && ints && method.getReturnType() == int.class ? 1 : 0);
                seen.add(method.getName() + " " + method.getParameterCount());
            }
        }
        due.is("methods " + seen, 1, seen.equals(new TreeSet<>(METHODS)) ? 1 : 0);
    }

    private static void fields(Due due) {
        Set<String> seen = new TreeSet<>();
        for (Field field : PlanShelves.class.getDeclaredFields()) {
            if (!Modifier.isPrivate(field.getModifiers())) {
                seen.add(field.getName());
            }
        }
        due.is("fields " + seen, 1, seen.equals(new TreeSet<>(CONSTANTS)) ? 1 : 0);
    }

    private static void constructors(Due due) {
        Constructor<?>[] constructors = PlanShelves.class.getDeclaredConstructors();
        due.is("constructors", 1, constructors.length);
        due.is("the constructor is public, without parameters", 1,
                Modifier.isPublic(constructors[0].getModifiers()) && constructors[0].getParameterCount() == 0 ? 1 : 0);
    }
}
