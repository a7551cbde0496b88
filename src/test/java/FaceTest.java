import java.lang.reflect.Constructor;
import java.lang.reflect.Field;
import java.lang.reflect.Method;
import java.lang.reflect.Modifier;
import java.util.Arrays;
import java.util.Map;
import java.util.TreeMap;

/** The document's public face, and nothing beside it that is not private. */
final class FaceTest {
    private static final Due due = new Due("face");

    public static void main(String[] args) throws IllegalAccessException {
        Class<?> face = PromiseHours.class;
        due.holds("public", Modifier.isPublic(face.getModifiers()));
        due.holds("final", Modifier.isFinal(face.getModifiers()));
        due.holds("no package", face.getPackageName().isEmpty());
        theConstructor(face);
        theConstants(face);
        theMethods(face);
        due.end();
    }

    private static void theConstructor(Class<?> face) {
        Constructor<?>[] all = face.getDeclaredConstructors();
        due.is("how many constructors", all.length, 1);
        due.holds("it is public", Modifier.isPublic(all[0].getModifiers()));
        due.is("its parameters", all[0].getParameterCount(), 0);
    }

    private static void theConstants(Class<?> face) throws IllegalAccessException {
        Map<String, Integer> wants = Map.of("UNKNOWN", -1, "OUTSIDE", -2, "STATE", -3, "NO", -5, "NONE", -6);
        Map<String, Integer> found = new TreeMap<>();
        for (Field f : face.getDeclaredFields()) {
            if (!Modifier.isPrivate(f.getModifiers())) {
                due.is(f.getName(), f.getModifiers(), Modifier.PUBLIC | Modifier.STATIC | Modifier.FINAL);
                due.holds(f.getName() + " is an int", f.getType() == int.class);
                found.put(f.getName(), f.getInt(null));
            }
        }
        due.holds("the constants are " + found, found.equals(wants));
    }

    private static void theMethods(Class<?> face) {
        Map<String, Integer> wants = new TreeMap<>();
        for (String name : new String[] {"pass", "cause", "waited", "waiting", "count", "image", "restore"}) {
            wants.put(name, 1);
        }
        for (String name : new String[] {"rule", "skew", "there", "read", "write", "thing", "reader"}) {
            wants.put(name, 2);
        }
        wants.put("copy", 3);
        wants.put("volume", 3);
        Map<String, Integer> found = new TreeMap<>();
        for (Method m : face.getDeclaredMethods()) {
            if (!Modifier.isPrivate(m.getModifiers())) {
                due.is(m.getName(), m.getModifiers(), Modifier.PUBLIC);
                due.holds(m.getName() + " answers an int", m.getReturnType() == int.class);
                due.holds(m.getName() + " takes ints",
                        Arrays.stream(m.getParameterTypes()).allMatch(type -> type == int.class));
                found.put(m.getName(), m.getParameterCount());
            }
        }
        due.holds("the methods are " + found, found.equals(wants));
    }
}
