import java.lang.reflect.Constructor;
import java.lang.reflect.Field;
import java.lang.reflect.Method;
import java.lang.reflect.Modifier;
import java.util.Arrays;
import java.util.TreeSet;

/** The public face: each constant, constructor and method of the document, and no other member that can be seen. */
final class FaceTest {
    private static final String CONSTANTS = "BAD NO FULL NONE NOTHING KIND INDEX SIZE";
    private static final String METHODS = "car/3 told/2 pace/2 as/2 turns/2 set/3 part/2 lays/3 gap/1 deal/1 seed/1 "
            + "seconds/1 ride/1 lamps/0 behind/2 stands/0 brake/3 moved/3 off/2 kind/3 kiss/2 gaps/1 weighed/3 fee/0 fine/1 "
            + "feed/3 trim/1 text/0 textTold/2 why/1 sheet/3 mark/3 pour/1 reads/1 copy/5 lay/3 ask/2 item/2 rest/2 "
            + "tell/1 check/1 keep/0 back/0 count/1";

    public static void main(String[] args) {
        constants();
        methods();
        Due.end();
    }

    private static void constants() {
        Due.is(0, "BAD", GhostTrain.BAD, -1000000001);
        Due.is(0, "NO", GhostTrain.NO, -1000000002);
        Due.is(0, "FULL", GhostTrain.FULL, -1000000003);
        Due.is(0, "NONE", GhostTrain.NONE, -1000000005);
        Due.is(0, "NOTHING", GhostTrain.NOTHING, -1000000011);
        Due.is(0, "KIND", GhostTrain.KIND, -1000000012);
        Due.is(0, "INDEX", GhostTrain.INDEX, -1000000013);
        Due.is(0, "SIZE", GhostTrain.SIZE, -1000000014);
        TreeSet<String> seen = new TreeSet<>();
        for (Field field : GhostTrain.class.getDeclaredFields()) {
            if (!Modifier.isPrivate(field.getModifiers())) {
                seen.add(field.getName());
            }
            boolean constant = Modifier.isStatic(field.getModifiers());
            Due.holds("a static field is not final: " + field, !constant || Modifier.isFinal(field.getModifiers()));
        }
        Due.holds("fields that can be seen: " + seen, seen.equals(new TreeSet<>(Arrays.asList(CONSTANTS.split(" ")))));
    }

    private static void methods() {
        TreeSet<String> seen = new TreeSet<>();
        TreeSet<String> names = new TreeSet<>();
        for (Method method : GhostTrain.class.getDeclaredMethods()) {
            int is = method.getModifiers();
            if (Modifier.isPrivate(is) || method.isSynthetic()) {
                continue;
            }
            seen.add(method.getName() + "/" + method.getParameterCount());
            names.add(method.getName());
            Due.holds("not public, of the object and an int: " + method,
                    Modifier.isPublic(is) && !Modifier.isStatic(is) && method.getReturnType() == int.class);
        }
        Due.holds("methods that can be seen: " + seen, seen.equals(new TreeSet<>(Arrays.asList(METHODS.split(" ")))));
        for (Method method : GhostTrain.class.getDeclaredMethods()) {
            boolean shared = Modifier.isPrivate(method.getModifiers()) && names.contains(method.getName());
            Due.holds("a private method bears the name of a public one: " + method, !shared);
        }
        Constructor<?>[] made = GhostTrain.class.getDeclaredConstructors();
        Due.holds("one public constructor without arguments",
                made.length == 1 && Modifier.isPublic(made[0].getModifiers()) && made[0].getParameterCount() == 0);
        Due.holds("the class is public and final", (GhostTrain.class.getModifiers() & (Modifier.PUBLIC | Modifier.FINAL))
                == (Modifier.PUBLIC | Modifier.FINAL));
    }
}
