import java.io.IOException;
import java.lang.annotation.Retention;
import java.lang.annotation.RetentionPolicy;
import java.lang.reflect.InvocationTargetException;
import java.lang.reflect.Method;
import java.nio.file.Files;
import java.nio.file.Path;
import java.util.Arrays;
import java.util.Comparator;
import java.util.IdentityHashMap;
import java.util.Map;

/**
 * What the tests of single sentences share. Each of their methods is named after its promise or its term and quotes
 * what it holds; it stands at the bound and on both sides of it.
 */
abstract class Bounds {
    static final int BAD = GhostTrain.BAD, NO = GhostTrain.NO, FULL = GhostTrain.FULL, NONE = GhostTrain.NONE;
    static final int NOTHING = GhostTrain.NOTHING, KIND = GhostTrain.KIND, INDEX = GhostTrain.INDEX, SIZE = GhostTrain.SIZE;
    static final int LEAST_INT = Integer.MIN_VALUE, MOST_INT = Integer.MAX_VALUE;

    static final Made NEW = GhostTrain::new;
    static final Made BUSY = Bounds::busy;
    static final Made CRAMMED = Bounds::crammed;

    private static final Map<Made, String[]> SEEN = new IdentityHashMap<>();
    private static String sentence = "";

    /** What the document says, word by word. */
    @Retention(RetentionPolicy.RUNTIME)
    @interface Says {
        String[] value();
    }

    interface Made {
        GhostTrain make();
    }

    interface Call {
        int on(GhostTrain x);
    }

    interface CallWith {
        int on(GhostTrain x, int v);
    }

    // ---- running

    static void holdAll(Class<?> tests) throws IOException, IllegalAccessException {
        String document = inOneLine(Files.readString(Path.of("../shared/DOC.md")));
        Method[] methods = tests.getDeclaredMethods();
        Arrays.sort(methods, Comparator.comparing(Method::getName));
        for (Method method : methods) {
            if (method.isAnnotationPresent(Says.class)) {
                sentence = method.getName();
                for (String said : method.getAnnotation(Says.class).value()) {
                    Due.holds(sentence + " quotes what the document does not say: " + said,
                            document.contains(inOneLine(said)));
                }
                hold(method);
            }
        }
        Due.end();
    }

    private static void hold(Method method) throws IllegalAccessException {
        int told = Due.answers();
        try {
            method.invoke(null);
        } catch (InvocationTargetException thrown) {
            Due.holds(sentence + " threw " + thrown.getCause(), false);
        }
        Due.holds(sentence + " tests nothing", Due.answers() > told);
    }

    private static String inOneLine(String text) {
        return text.replaceAll("\\s+", " ").trim();
    }

    // ---- what a sentence's test tells

    static void is(String call, long got, long due) {
        Due.is(sentence, call, got, due);
    }

    static void are(String calls, int[] got, int... due) {
        Due.holds(sentence + ": " + calls + " answered " + Arrays.toString(got) + ", due is " + Arrays.toString(due),
                Arrays.equals(got, due));
    }

    /** The call answers this, and nothing is otherwise then. */
    static void refuses(Made made, String call, int due, Call how) {
        String[] before = SEEN.computeIfAbsent(made, Bounds::viewsOf);
        for (int view = 0; view < VIEWS; view++) {
            GhostTrain x = made.make();
            int got = how.on(x);
            if (view == 0) {
                is(call, got, due);
            }
            String now = viewOf(x, view);
            Due.holds(sentence + ": " + call + " changed " + before[view] + " to " + now, before[view].equals(now));
        }
    }

    /** From the least to the most it is taken, on both sides of them, and as far off as may be, it is refused. */
    static void range(Made made, String call, int least, int most, int refusal, CallWith how) {
        for (int v : new int[] {LEAST_INT, least - 1, most + 1, MOST_INT}) {
            refuses(made, call + " by " + v, refusal, x -> how.on(x, v));
        }
        for (int v : new int[] {least, Math.min(least + 1, most), Math.max(most - 1, least), most}) {
            int got = how.on(made.make(), v);
            Due.holds(sentence + ": " + call + " by " + v + " was refused: " + got, got > -1000000000);
        }
    }

    // ---- objects

    /** Much stands in it that a refused call could spoil; there is room for five more CARS and eleven TEXTS. */
    static GhostTrain busy() {
        GhostTrain x = new GhostTrain();
        x.car(0, 15, 40);
        x.car(4, 17, 60);
        x.car(3, 236, 99);
        x.lays(1, 2, 60);
        x.lays(0, 2, 1);
        x.lays(2, 0, -3);
        x.lays(3, 1, 6);
        Due.text(x, "pace 5+w/20-r");
        Due.text(x, "fee s*9+t");
        x.seconds(3);
        x.keep();
        tellSeconds(x, 2);
        x.turns(0, 1);
        x.set(1, 2, 55);
        x.lays(5, 2, 7);
        x.gap(12);
        x.seconds(2);
        x.seed(-5);
        Due.text(x, "fine f+m*7");
        sheetsAndSlots(x);
        Due.tape(x, "fee 4321-s*t");
        return x;
    }

    private static void tellSeconds(GhostTrain x, int n) {
        for (int second = 1; second <= n; second++) {
            int feet = 0;
            for (int car = 0; car < x.count(0); car++) {
                feet += x.behind(second, 4 + car);
            }
            x.tell(feet);
            x.tell(x.behind(second, 0));
        }
    }

    /** SHEET 0 is of shorts, 1 of floats, 2 has no places, 3 is MISSING; SLOT 4 holds nothing. */
    private static void sheetsAndSlots(GhostTrain x) {
        x.sheet(0, 0, 5);
        x.mark(0, 0, 31);
        x.mark(0, 4, -32768);
        x.sheet(1, 1, 13);
        x.mark(1, 0, 99999);
        x.mark(1, 1, NONE);
        x.mark(1, 12, -8);
        x.sheet(2, 0, 0);
        x.lay(0, 1, 2);
        x.lay(1, 2, 0);
        x.lay(2, 2, 1);
        x.lay(3, 3, -12345);
    }

    /** As busy, and there is no room for anything. */
    static GhostTrain crammed() {
        GhostTrain x = busy();
        x.deal(8);
        x.trim(0);
        for (int text = x.count(4); text < 14; text++) {
            Due.text(x, "fee 8");
        }
        Due.tape(x, "fee 1" + "+1".repeat(45) + " ");
        for (int waiting = x.count(5); waiting < 60; waiting++) {
            x.tell(7);
        }
        return x;
    }

    /** THE SECOND is 9999 less these; there are no CARS yet. */
    static GhostTrain late(int left) {
        GhostTrain x = new GhostTrain();
        for (int i = 0; i < 33; i++) {
            x.seconds(300);
        }
        if (left < 99) {
            x.seconds(99 - left);
        }
        return x;
    }

    // ---- all of an object that can be seen, in views that stay under 512 calls each

    private static final int VIEWS = 4;

    private static String[] viewsOf(Made made) {
        String[] views = new String[VIEWS];
        for (int view = 0; view < VIEWS; view++) {
            views[view] = viewOf(made.make(), view);
        }
        return views;
    }

    private static String viewOf(GhostTrain x, int view) {
        switch (view) {
            case 0: return now(x);
            case 1: return x.back() + ": " + now(x);
            case 2: return slots(x) + sheets(x);
            default: return tapeAndWaiting(x);
        }
    }

    private static String now(GhostTrain x) {
        StringBuilder now = new StringBuilder();
        for (int car = 0; car < x.count(0); car++) {
            for (int what = 0; what < 7; what++) {
                now.append(x.told(car, what)).append(' ');
            }
            now.append(x.fine(car)).append("; ");
        }
        for (int part = 0; part < 12; part++) {
            for (int what = 0; what < 4; what++) {
                now.append(x.part(part, what)).append(' ');
            }
        }
        for (int what = 0; what < 8; what++) {
            now.append(x.count(what)).append(' ');
        }
        for (int key = 0; key < 3; key++) {
            now.append(x.why(key)).append(' ');
        }
        for (int text = 0; text < x.count(4); text++) {
            now.append(x.textTold(text, 0)).append(x.textTold(text, 1)).append(' ');
        }
        return now.append(x.fee()).toString();
    }

    private static String slots(GhostTrain x) {
        StringBuilder slots = new StringBuilder();
        for (int slot = 0; slot < 5; slot++) {
            slots.append(x.rest(slot, LEAST_INT)).append(' ');
            for (int kind = 0; kind < 6; kind++) {
                slots.append(x.ask(slot, kind)).append(' ');
            }
            slots.append(places(x, slot)).append("; ");
        }
        return slots.toString();
    }

    private static String places(GhostTrain x, int slot) {
        StringBuilder places = new StringBuilder();
        boolean row = x.item(slot, -1) == INDEX;
        for (int place = 0; row; place++) {
            int at = x.item(slot, place);
            row = at != INDEX;
            places.append(at).append(' ');
        }
        return places.toString();
    }

    /** It takes SLOT 0 and spoils the first places: NONE tells shorts from floats. */
    private static String sheets(GhostTrain x) {
        StringBuilder sheets = new StringBuilder();
        for (int sheet = 0; sheet < 4; sheet++) {
            boolean there = x.lay(0, 2, sheet) != NOTHING;
            sheets.append(there ? places(x, 0) : "missing ").append(x.mark(sheet, 0, NONE)).append("; ");
        }
        return sheets.toString();
    }

    private static String tapeAndWaiting(GhostTrain x) {
        return x.check(2) + " " + x.count(5) + " " + x.text() + " " + x.count(4) + " " + x.fee();
    }
}
