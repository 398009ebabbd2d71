import java.lang.reflect.InvocationTargetException;
import java.lang.reflect.Method;
import java.util.ArrayList;
import java.util.HashMap;
import java.util.List;
import java.util.Map;

/** Runs of calls by lot, up to 512 on an object, on the class and on the Model: all answers must be the same. */
final class ModelTest {
    private static final int RUNS = 200;
    private static final int CALLS = 512;
    /** Each call with what its arguments are: one letter each, as argument(..) has them. */
    private static final String[] CALLS_TOLD = {
        "car kfw", "told c0", "pace cp", "as ck", "turns ck", "set c1", "part p3", "lays p2v", "gap g", "deal k", "seed i",
        "seconds n", "ride 5", "lamps", "behind nb", "stands", "brake pm7", "moved ppm", "off m7", "kind cm7", "kiss pm",
        "gaps g", "weighed sc7", "fee", "fine c", "feed iii", "trim t", "text", "textTold x7", "why 3", "sheet soq",
        "mark srV", "mark srV", "mark srf", "pour s", "reads s", "copy srsrq", "lay lh4", "ask lk", "item lr", "rest li",
        "tell i", "check q", "keep", "back", "count 9"};
    /** How often a call is made, where it is not 4: those that forget much, or whose worth is told anyway, less. */
    private static final Map<String, Integer> OFTEN = Map.of("back", 1, "text", 1, "feed", 1, "trim", 1, "stands", 2,
            "seed", 1, "told", 12, "lays", 12, "lay", 9, "sheet", 6);

    private final GhostTrain train = new GhostTrain();
    private final Model model = new Model();
    private final StringBuilder told = new StringBuilder();
    private int left = CALLS;
    private int state;

    private ModelTest(int seed) {
        state = seed * 7919 + 17;
    }

    public static void main(String[] args) throws ReflectiveOperationException {
        Map<String, Method> ofTrain = byNames(GhostTrain.class);
        Map<String, Method> ofModel = byNames(Model.class);
        List<String> lot = new ArrayList<>();
        for (String call : CALLS_TOLD) {
            for (int i = 0; i < OFTEN.getOrDefault(call.split(" ")[0], 4); i++) {
                lot.add(call);
            }
        }
        for (int run = 0; run < RUNS && Due.wrongs() == 0; run++) {
            new ModelTest(run).run(lot, ofTrain, ofModel);
        }
        Due.end();
    }

    private static Map<String, Method> byNames(Class<?> of) {
        Map<String, Method> methods = new HashMap<>();
        for (Method method : of.getMethods()) {
            methods.put(method.getName(), method);
        }
        return methods;
    }

    private int by(int n) {
        state = state * 1664525 + 1013904223;
        int mixed = (state ^ state >>> 15) * 0x2c1b3c6d;
        return ((mixed ^ mixed >>> 13) >>> 4) % n;
    }

    private void run(List<String> lot, Map<String, Method> ofTrain, Map<String, Method> ofModel)
            throws ReflectiveOperationException {
        boolean late = by(8) == 0;
        for (int i = 0; late && i < 33; i++) {
            same(ofTrain, ofModel, "seconds", 300);
        }
        if (by(3) > 0) {
            same(ofTrain, ofModel, "deal", 1 + by(8));
        }
        for (int sheet = by(5); sheet < 4; sheet++) {
            same(ofTrain, ofModel, "sheet", sheet, by(2), by(25));
        }
        while (left > 0 && Due.wrongs() == 0) {
            int what = by(40);
            if (what == 0) {
                feedText(ofTrain, ofModel, by(12) == 0 ? noise() : text());
            } else if (what == 1) {
                tellSeconds(ofTrain, ofModel);
            } else {
                byLot(lot, ofTrain, ofModel);
            }
        }
    }

    private void byLot(List<String> lot, Map<String, Method> ofTrain, Map<String, Method> ofModel)
            throws ReflectiveOperationException {
        String[] call = lot.get(by(lot.size())).split(" ");
        String letters = call.length > 1 ? call[1] : "";
        Object[] arguments = new Object[letters.length()];
        for (int i = 0; i < arguments.length; i++) {
            arguments[i] = argument(letters.charAt(i));
        }
        if (call[0].equals("set") || call[0].equals("lay")) {
            Object[] three = {arguments[0], arguments[1], by(by(2) == 0 ? 4 : 120)};
            arguments = three;
        }
        same(ofTrain, ofModel, call[0], arguments);
    }

    private int argument(char letter) {
        int odd = by(120);
        if (odd == 0) {
            return new int[] {Integer.MIN_VALUE, Integer.MAX_VALUE, -1, GhostTrain.NONE, 1 << 16, -7}[by(6)];
        }
        switch (letter) {
            case 'k': return within(0, 5);
            case 'f': return within(0, 239);
            case 'w': return within(1, 99);
            case 'c': return by(2) * within(0, 7);
            case 'p': return within(0, 11);
            case 's': return within(0, 3);
            case 'l': return within(0, 4);
            case 'x': return within(0, 13);
            case 'v': return within(by(2) * -9, 9 + by(2) * 51);
            case 'V': return by(6) == 0 ? GhostTrain.NONE : within(-12, 12);
            case 'g': return within(1, 60);
            case 'n': return by(3) == 0 ? within(1, 300) : within(1, 20);
            case 'm': return by(3) == 0 ? within(1, 100) : within(1, 20);
            case 'b': return within(0, 11);
            case 't': return within(0, 96);
            case 'q': return within(0, by(2) == 0 ? 25 : 5);
            case 'r': return within(0, by(2) == 0 ? 24 : 4);
            case 'o': return by(6) == 0 ? within(-1, 1) : by(2);
            case 'h': return within(0, 3);
            case 'i': return by(4) == 0 ? state : within(-9, 9);
            case '0': return within(0, 10);
            case '1': return within(1, 2);
            case '2': return within(0, 2);
            case '3': return within(0, 3);
            case '4': return within(0, 5);
            case '5': return within(0, 5);
            case '7': return within(0, 1);
            default: return within(0, 7);
        }
    }

    /** Now and then just beside, where it may be refused. */
    private int within(int least, int most) {
        int at = by(40);
        return at == 0 ? least - 1 : at == 1 ? most + 1 : at == 2 ? least : at == 3 ? most : least + by(most - least + 1);
    }

    private int same(Map<String, Method> ofTrain, Map<String, Method> ofModel, String name, Object... arguments)
            throws ReflectiveOperationException {
        if (left == 0) {
            return 0;
        }
        left--;
        told.append(name).append(List.of(arguments)).append('\n');
        int due = (int) ofModel.get(name).invoke(model, arguments);
        try {
            int got = (int) ofTrain.get(name).invoke(train, arguments);
            if (got != due) {
                System.out.println(told);
            }
            Due.is(0, name + List.of(arguments), got, due);
            return got;
        } catch (InvocationTargetException thrown) {
            System.out.println(told);
            Due.holds(name + List.of(arguments) + " threw " + thrown.getCause(), false);
            return 0;
        }
    }

    private void feedText(Map<String, Method> ofTrain, Map<String, Method> ofModel, String text)
            throws ReflectiveOperationException {
        String fits = text.length() > 96 ? text.substring(0, 96) : text;
        same(ofTrain, ofModel, "trim", 0);
        for (int i = 0; i < fits.length(); i += 12) {
            same(ofTrain, ofModel, "feed", Due.fourBytes(fits, i), Due.fourBytes(fits, i + 4), Due.fourBytes(fits, i + 8));
        }
        same(ofTrain, ofModel, "trim", fits.length());
        same(ofTrain, ofModel, "text");
    }

    private void tellSeconds(Map<String, Method> ofTrain, Map<String, Method> ofModel) throws ReflectiveOperationException {
        int n = 1 + by(by(4) == 0 ? 30 : 3);
        List<Integer> due = model.dueToBeTold(n);
        if (by(4) == 0) {
            due.add(by(9));
        }
        if (by(4) == 0 && !due.isEmpty()) {
            int place = by(due.size());
            due.set(place, due.get(place) + 1);
        }
        if (by(4) == 0 && !due.isEmpty()) {
            due.remove(due.size() - 1);
        }
        for (int number : due) {
            same(ofTrain, ofModel, "tell", number);
        }
        same(ofTrain, ofModel, "check", n);
    }

    private String text() {
        int key = by(3);
        StringBuilder text = new StringBuilder(blanks()).append(new String[] {"pace", "fee", "fine"}[key]);
        text.append(by(20) == 0 ? "" : " ");
        sum(text, new String[] {"wrb", "st", "fm"}[key], 0);
        if (by(3) == 0) {
            int at = by(text.length());
            String spoilt = "()!|&<=>+-*/ 0wsf9";
            text.setCharAt(at, spoilt.charAt(by(spoilt.length())));
        }
        return text.append(blanks()).toString();
    }

    private void sum(StringBuilder text, String names, int depth) {
        int pieces = 1 + by(depth == 0 ? 5 : 3);
        for (int i = 0; i < pieces; i++) {
            if (i > 0) {
                text.append("|&<=>+-*/+-*/".charAt(by(13)));
            }
            text.append(blanks()).append(by(4) == 0 ? "!" : "");
            if (by(12) == 0) {
                text.append("!".repeat(1 + by(8)));
            }
            if (depth < 9 && by(3) == 0) {
                int many = by(8) == 0 ? 1 + by(8) : 1;
                text.append("(".repeat(many));
                sum(text, names, depth + many);
                text.append(")".repeat(many));
            } else {
                text.append(by(2) == 0 ? "" + by(by(2) == 0 ? 30 : 12000) : "" + names.charAt(by(names.length())));
            }
            text.append(blanks());
        }
    }

    private String blanks() {
        return " ".repeat(by(8) == 0 ? 1 + by(2) : 0);
    }

    private String noise() {
        String signs = "pacefine 0123456789wrbstfm()!|&<=>+-*/" + (char) 0 + (char) 31 + (char) 128 + (char) 255 + "AZ`{:/";
        StringBuilder noise = new StringBuilder(by(3) == 0 ? "" : "fee ");
        for (int i = by(20); i > 0; i--) {
            noise.append(signs.charAt(by(signs.length())));
        }
        return noise.toString();
    }
}
