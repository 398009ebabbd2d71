import java.lang.reflect.InvocationTargetException;
import java.lang.reflect.Method;
import java.lang.reflect.Modifier;
import java.util.function.Supplier;

/** No call throws, whatever its arguments: each with every choice out of a few odd ones, on objects in several states. */
final class NoThrowTest {
    private static final int[] ODD = {Integer.MIN_VALUE, GhostTrain.NONE, -1, 0, 1, 3, 24, Integer.MAX_VALUE};
    /** With those that make an object they stay below the 512 for which one is good. */
    private static final int CALLS = 300;

    public static void main(String[] args) throws IllegalAccessException {
        for (Method method : GhostTrain.class.getDeclaredMethods()) {
            if (Modifier.isPublic(method.getModifiers())) {
                callWithAll(GhostTrain::new, method);
                callWithAll(NoThrowTest::full, method);
                callWithAll(NoThrowTest::kept, method);
            }
        }
        Due.end();
    }

    private static GhostTrain full() {
        GhostTrain x = new GhostTrain();
        x.deal(7);
        Due.text(x, "pace w/(r-b)*!(0-8192*8192*32/(r-1))");
        Due.text(x, "fee (0-8192*8192*32)/(0-1)/s");
        for (int i = 0; i < 12; i++) {
            Due.text(x, "fine f/m");
        }
        for (int sheet = 0; sheet < 3; sheet++) {
            x.sheet(sheet, sheet % 2, 24 - sheet);
            x.mark(sheet, 1, sheet % 2 == 1 ? GhostTrain.NONE : -32768);
            x.lay(sheet, 2, sheet);
        }
        x.lay(3, 1, 6);
        x.lay(4, 3, Integer.MIN_VALUE);
        for (int i = 0; i < 8; i++) {
            x.feed(0x66656520, 0x28282828, 0x21212121);
        }
        for (int i = 0; i < 60; i++) {
            x.tell(i);
        }
        return x;
    }

    private static GhostTrain kept() {
        GhostTrain kept = full();
        kept.keep();
        kept.deal(8);
        return kept;
    }

    private static void callWithAll(Supplier<GhostTrain> made, Method method) throws IllegalAccessException {
        GhostTrain x = made.get();
        int many = method.getParameterCount();
        Object[] arguments = new Object[many];
        int choices = 1 << 3 * many;
        for (int choice = 0; choice < choices; choice++) {
            if (choice % CALLS == CALLS - 1) {
                x = made.get();
            }
            for (int i = 0; i < many; i++) {
                arguments[i] = ODD[choice >> 3 * i & 7];
            }
            try {
                method.invoke(x, arguments);
            } catch (InvocationTargetException thrown) {
                Due.holds(method.getName() + java.util.List.of(arguments) + " threw " + thrown.getCause(), false);
            }
        }
        Due.holds(method.getName(), true);
    }
}
