import java.lang.reflect.Constructor;
import java.lang.reflect.Field;
import java.lang.reflect.Method;
import java.lang.reflect.Modifier;
import java.util.HashSet;
import java.util.List;
import java.util.Set;
import java.util.TreeSet;

/** The public face: all that the document names, nothing else, and no private method of its names. */
public final class FaceTest {
    private static final Due DUE = new Due("FaceTest");

    private static final List<String> METHODS = List.of(
            "gates/1", "turbines/1", "pump/1", "birds/2", "run/1", "dredge/1", "set/2",
            "sea/1", "now/1", "record/2", "next/1",
            "would/2", "seaAt/1", "best/2", "gatesFor/2", "bestDay/0", "share/0", "count/1", "undo/0",
            "type/1", "clearText/0", "fault/1", "play/0");

    private static final List<String> CONSTANTS = List.of(
            "INVALID_ARGUMENT", "NOT_POSSIBLE", "LIMIT_REACHED", "NOT_FOUND");

    public static void main(String[] args) {
        constantsHaveTheirValues();
        classIsPublicAndFinal();
        methodsAreThoseOfTheDocument();
        fieldsAreThoseOfTheDocument();
        namesOfTheFaceAreNotUsedTwice();
        DUE.end();
    }

    private static void constantsHaveTheirValues() {
        DUE.is("INVALID_ARGUMENT", LagoonGates.INVALID_ARGUMENT, -1000000001);
        DUE.is("NOT_POSSIBLE", LagoonGates.NOT_POSSIBLE, -1000000002);
        DUE.is("LIMIT_REACHED", LagoonGates.LIMIT_REACHED, -1000000003);
        DUE.is("NOT_FOUND", LagoonGates.NOT_FOUND, -1000000004);
    }

    private static void classIsPublicAndFinal() {
        int modifiers = LagoonGates.class.getModifiers();
        DUE.holds("the class is public and final", Modifier.isPublic(modifiers) && Modifier.isFinal(modifiers));
        Constructor<?>[] constructors = LagoonGates.class.getDeclaredConstructors();
        DUE.is("number of constructors", constructors.length, 1);
        DUE.holds("the constructor is public and takes nothing", Modifier.isPublic(constructors[0].getModifiers())
                && constructors[0].getParameterCount() == 0);
    }

    private static void methodsAreThoseOfTheDocument() {
        Set<String> open = new TreeSet<>();
        for (Method method : LagoonGates.class.getDeclaredMethods()) {
            if (!Modifier.isPrivate(method.getModifiers())) {
                String name = method.getName() + "/" + method.getParameterCount();
                open.add(name);
                DUE.holds(name + " is public, not static and answers an int",
                        Modifier.isPublic(method.getModifiers()) && !Modifier.isStatic(method.getModifiers())
                                && method.getReturnType() == int.class && method.getExceptionTypes().length == 0);
                for (Class<?> parameter : method.getParameterTypes()) {
                    DUE.holds(name + " takes ints", parameter == int.class);
                }
            }
        }
        DUE.holds("open methods " + open, open.equals(new TreeSet<>(METHODS)));
    }

    private static void fieldsAreThoseOfTheDocument() {
        Set<String> open = new TreeSet<>();
        for (Field field : LagoonGates.class.getDeclaredFields()) {
            int modifiers = field.getModifiers();
            if (!Modifier.isPrivate(modifiers)) {
                open.add(field.getName());
            }
            DUE.holds(field.getName() + " is final if it is static",
                    !Modifier.isStatic(modifiers) || Modifier.isFinal(modifiers));
        }
        DUE.holds("open fields " + open, open.equals(new TreeSet<>(CONSTANTS)));
    }

    private static void namesOfTheFaceAreNotUsedTwice() {
        Set<String> face = new HashSet<>();
        for (String method : METHODS) {
            face.add(method.substring(0, method.indexOf('/')));
        }
        for (Method method : LagoonGates.class.getDeclaredMethods()) {
            DUE.holds(method.getName() + " has a name of its own",
                    !Modifier.isPrivate(method.getModifiers()) || !face.contains(method.getName()));
        }
        for (Class<?> inside : LagoonGates.class.getDeclaredClasses()) {
            DUE.holds(inside.getName() + " is private and static",
                    Modifier.isPrivate(inside.getModifiers()) && Modifier.isStatic(inside.getModifiers()));
            for (Method method : inside.getDeclaredMethods()) {
                DUE.holds(inside.getName() + "." + method.getName() + " has a name of its own",
                        !face.contains(method.getName()));
            }
        }
    }
}
