import java.lang.reflect.Constructor;
import java.lang.reflect.Field;
import java.lang.reflect.Method;
import java.lang.reflect.Modifier;
import java.util.ArrayList;
import java.util.List;

/** The public face of the document, and rules 1, 2 and 5 of LANGUAGE.md, as the machine sees them. */
public final class FaceTest {
    private static final Due due = new Due("FaceTest");

    /** The calls by how many numbers they take. */
    private static final String[] CALLS = {
        " up top back delete lift cut copy like undo clearText write read ",
        " down side step letter wrap exchange paste mark goTo marked count find type fault ",
        " child beside nodeOf spine meet ",
    };

    public static void main(String[] args) throws IllegalAccessException {
        constants();
        constructor();
        calls();
        classesInside();
        due.end();
    }

    private static void constants() throws IllegalAccessException {
        due.is("INVALID_ARGUMENT", TreePlaces.INVALID_ARGUMENT, -1);
        due.is("NOT_POSSIBLE", TreePlaces.NOT_POSSIBLE, -2);
        due.is("LIMIT_REACHED", TreePlaces.LIMIT_REACHED, -3);
        due.is("NOT_FOUND", TreePlaces.NOT_FOUND, -4);
        List<String> open = new ArrayList<>();
        for (Field field : TreePlaces.class.getDeclaredFields()) {
            if (Modifier.isPublic(field.getModifiers())) {
                open.add(field.getName());
                due.holds(field + " is a constant int", field.getType() == int.class
                        && Modifier.isStatic(field.getModifiers()) && Modifier.isFinal(field.getModifiers()));
            } else {
                due.holds(field + " is private", Modifier.isPrivate(field.getModifiers()));
            }
        }
        open.sort(null);
        due.is("public fields", open.toString(), "[INVALID_ARGUMENT, LIMIT_REACHED, NOT_FOUND, NOT_POSSIBLE]");
    }

    private static void constructor() {
        Constructor<?>[] constructors = TreePlaces.class.getDeclaredConstructors();
        due.is("constructors", constructors.length, 1);
        due.is("numbers it takes", constructors[0].getParameterCount(), 0);
        due.holds("it is public", Modifier.isPublic(constructors[0].getModifiers()));
        int modifiers = TreePlaces.class.getModifiers();
        due.holds("the class is public and final", Modifier.isPublic(modifiers) && Modifier.isFinal(modifiers));
    }

    private static void calls() {
        int open = 0;
        for (Method method : TreePlaces.class.getDeclaredMethods()) {
            String name = " " + method.getName() + " ";
            if (!Modifier.isPublic(method.getModifiers())) {
                due.holds(method + " is private", Modifier.isPrivate(method.getModifiers()));
                due.holds(method + " has a name of its own", !String.join("", CALLS).contains(name));
                continue;
            }
            open++;
            int numbers = method.getParameterCount();
            due.holds(method + " is a call", numbers < CALLS.length && CALLS[numbers].contains(name));
            due.holds(method + " answers an int", method.getReturnType() == int.class);
            due.holds(method + " is asked of an object", !Modifier.isStatic(method.getModifiers()));
            for (Class<?> type : method.getParameterTypes()) {
                due.holds(method + " takes ints", type == int.class);
            }
        }
        due.is("public methods", open, 31);
    }

    private static void classesInside() {
        Class<?>[] all = TreePlaces.class.getNestMembers();
        due.holds("some twelve classes at most", all.length <= 12);
        for (Class<?> inside : all) {
            if (inside == TreePlaces.class) {
                continue;
            }
            int modifiers = inside.getModifiers();
            due.holds(inside + " is static and a member", inside.isMemberClass() && Modifier.isStatic(modifiers));
            due.holds(inside + " is not open", !Modifier.isPublic(modifiers) && !Modifier.isProtected(modifiers));
            due.holds(inside + " has some twenty fields at most", inside.getDeclaredFields().length <= 20);
            for (Field field : inside.getDeclaredFields()) {
                int kind = field.getModifiers();
                due.holds(field + " is of the object or final", !Modifier.isStatic(kind) || Modifier.isFinal(kind));
            }
            for (Method method : inside.getDeclaredMethods()) {
                String name = " " + method.getName() + " ";
                due.holds(method + " has a name of its own", !String.join("", CALLS).contains(name));
            }
        }
    }
}
