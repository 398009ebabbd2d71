import java.util.ArrayList;
import java.util.List;

/**
 * The document once more, written as unlike the class as may be (foot by foot, tokens read by a row of states), for
 * ModelTest to hold the two against one another.
 */
public final class Model {
    private static final int BAD = GhostTrain.BAD, NO = GhostTrain.NO, FULL = GhostTrain.FULL, NONE = GhostTrain.NONE;
    private static final int NOTHING = GhostTrain.NOTHING, KIND = GhostTrain.KIND, INDEX = GhostTrain.INDEX, SIZE = GhostTrain.SIZE;
    private static final int[] ABOVE = {-1, 0, 0, 1, 2, 0};

    static final class Wagon {
        int kind, foot, weight, screams, missed, stood, rounds;

        Wagon(int kind, int foot, int weight) {
            this.kind = kind;
            this.foot = foot;
            this.weight = weight;
        }

        Wagon twin() {
            Wagon w = new Wagon(kind, foot, weight);
            w.screams = screams;
            w.missed = missed;
            w.stood = stood;
            w.rounds = rounds;
            return w;
        }
    }

    static final class Law {
        String key;
        List<String> tokens = new ArrayList<>();
        int operands;
    }

    static final class World {
        List<Wagon> cars = new ArrayList<>();
        List<Law> laws = new ArrayList<>();
        int[] rise = new int[12], brake = new int[12], scare = new int[12], set = new int[12];
        int gap = 10, second = 0, z = 1;

        World twin() {
            World w = new World();
            for (Wagon c : cars) {
                w.cars.add(c.twin());
            }
            w.laws.addAll(laws);
            w.rise = rise.clone();
            w.brake = brake.clone();
            w.scare = scare.clone();
            w.set = set.clone();
            w.gap = gap;
            w.second = second;
            w.z = z;
            return w;
        }

        int lawOf(String key) {
            int last = -1;
            for (int i = 0; i < laws.size(); i++) {
                if (laws.get(i).key.equals(key)) {
                    last = i;
                }
            }
            return last;
        }

        int pace(Wagon c, int part) {
            int law = lawOf("pace");
            int asCar = law >= 0
                    ? new Worker(laws.get(law), "wrb", c.weight, rise[part], brake[part]).value()
                    : 6 + c.weight / 20 - rise[part] - brake[part];
            asCar = asCar < 1 ? 1 : asCar > 20 ? 20 : asCar;
            int asHeavy = rise[part] < 0 ? asCar + 2 > 20 ? 20 : asCar + 2 : asCar;
            int asLight = asCar == 1 ? 1 : asCar / 2;
            switch (c.kind) {
                case 0: return asCar;
                case 1: return asHeavy;
                case 2: return asLight;
                case 3: return rise[part] > 0 && asHeavy > 1 ? asHeavy - 1 : asHeavy;
                case 4: return brake[part] > 4 ? 1 : asLight;
                default: return 7;
            }
        }

        int room(int car) {
            if (cars.size() == 1) {
                return 240;
            }
            for (int on = 0; on <= 240; on++) {
                for (int other = 0; other < cars.size(); other++) {
                    boolean there = (cars.get(car).foot + on) % 240 == cars.get(other).foot;
                    if (other != car && there && (on > 0 || other > car)) {
                        return on - gap;
                    }
                }
            }
            throw new IllegalStateException("one is always ahead");
        }

        void second() {
            for (int part = 0; part < 12; part++) {
                if (set[part] > 0) {
                    set[part]--;
                }
            }
            for (int car = 0; car < cars.size(); car++) {
                Wagon c = cars.get(car);
                int steps = Math.min(pace(c, c.foot / 20), room(car));
                if (steps <= 0) {
                    c.stood++;
                }
                for (int step = 0; step < steps; step++) {
                    c.foot++;
                    if (c.foot == 240) {
                        c.foot = 0;
                        c.rounds++;
                    }
                    if (c.foot % 20 == 0 && scare[c.foot / 20] > 0) {
                        scream(c, c.foot / 20);
                    }
                }
            }
            second++;
        }

        private void scream(Wagon c, int part) {
            if (set[part] > 0) {
                c.missed++;
            } else {
                c.screams += loud(c.kind);
                set[part] = scare[part];
            }
        }

        World after(int n) {
            World w = twin();
            for (int i = 0; i < n; i++) {
                w.second();
            }
            return w;
        }

        int screams() {
            return cars.stream().mapToInt(c -> c.screams).sum();
        }

        int missed() {
            return cars.stream().mapToInt(c -> c.missed).sum();
        }

        int stood() {
            return cars.stream().mapToInt(c -> c.stood).sum();
        }

        int rounds() {
            return cars.stream().mapToInt(c -> c.rounds).sum();
        }

        int feet() {
            return cars.stream().mapToInt(c -> c.foot).sum();
        }
    }

    /** Works a TEXT out by recursion over its tokens. */
    static final class Worker {
        private final List<String> tokens;
        private final String names;
        private final int[] values;
        private int at = 0;

        Worker(Law law, String names, int... values) {
            this.tokens = law.tokens;
            this.names = names;
            this.values = values;
        }

        int value() {
            return or();
        }

        private boolean next(String signs) {
            return at < tokens.size() && signs.contains(tokens.get(at));
        }

        private int or() {
            int v = and();
            while (next("|")) {
                at++;
                int w = and();
                v = v != 0 || w != 0 ? 1 : 0;
            }
            return v;
        }

        private int and() {
            int v = test();
            while (next("&")) {
                at++;
                int w = test();
                v = v != 0 && w != 0 ? 1 : 0;
            }
            return v;
        }

        private int test() {
            int v = sum();
            if (next("<") || next("=") || next(">")) {
                String sign = tokens.get(at++);
                int c = Integer.compare(v, sum());
                return sign.equals("<") ? c < 0 ? 1 : 0 : sign.equals("=") ? c == 0 ? 1 : 0 : c > 0 ? 1 : 0;
            }
            return v;
        }

        private int sum() {
            int v = term();
            while (next("+") || next("-")) {
                v = tokens.get(at++).equals("+") ? v + term() : v - term();
            }
            return v;
        }

        private int term() {
            int v = piece();
            while (next("*") || next("/")) {
                boolean times = tokens.get(at++).equals("*");
                int w = piece();
                v = times ? v * w : w == 0 ? 0 : (int) ((long) v / w);
            }
            return v;
        }

        private int piece() {
            String token = tokens.get(at++);
            if (token.equals("!")) {
                return piece() == 0 ? 1 : 0;
            }
            if (token.equals("(")) {
                int v = or();
                at++;
                return v;
            }
            return Character.isDigit(token.charAt(0)) ? Integer.parseInt(token) : values[names.indexOf(token)];
        }
    }

    /** Reads a tape by states: whether a PIECE is due, and for each ( that is open whether its TEST has compared yet. */
    static final class Scanner {
        final Law law = new Law();
        int fault = -1;

        Scanner(String tape) {
            List<Integer> places = new ArrayList<>();
            List<String> tokens = new ArrayList<>();
            cut(tape, tokens, places);
            boolean pieceDue = true;
            List<Boolean> compared = new ArrayList<>();
            compared.add(false);
            // The ! that are open, a ( of its own among them as it comes.
            StringBuilder open = new StringBuilder();
            for (int i = 0; i < tokens.size() && fault < 0; i++) {
                String token = tokens.get(i);
                boolean glued = i > 0 && isWord(token) && isWord(tokens.get(i - 1))
                        && places.get(i) == places.get(i - 1) + tokens.get(i - 1).length();
                if (glued) {
                    fault = places.get(i);
                } else if (i == 0) {
                    law.key = token;
                    fault = token.equals("pace") || token.equals("fee") || token.equals("fine") ? -1 : places.get(i);
                } else if (pieceDue && token.equals("!") && count(open, '!') < 8) {
                    open.append('!');
                } else if (pieceDue && token.equals("(") && count(open, '(') < 8) {
                    open.append('(');
                    compared.add(false);
                } else if (pieceDue && isOperand(token)) {
                    pieceDue = false;
                    law.operands++;
                    close(open);
                } else if (!pieceDue && token.equals(")") && count(open, '(') > 0) {
                    open.setLength(open.length() - 1);
                    compared.remove(compared.size() - 1);
                    close(open);
                } else if (!pieceDue && "|&".contains(token)) {
                    compared.set(compared.size() - 1, false);
                    pieceDue = true;
                } else if (!pieceDue && "<=>".contains(token) && !compared.get(compared.size() - 1)) {
                    compared.set(compared.size() - 1, true);
                    pieceDue = true;
                } else if (!pieceDue && "+-*/".contains(token)) {
                    pieceDue = true;
                } else {
                    fault = places.get(i);
                }
                if (i > 0) {
                    law.tokens.add(token);
                }
            }
            if (fault < 0 && (tokens.isEmpty() || pieceDue || count(open, '(') > 0)) {
                fault = tape.length();
            }
        }

        private static void cut(String tape, List<String> tokens, List<Integer> places) {
            java.util.regex.Matcher m = java.util.regex.Pattern.compile("[a-z]+|[0-9]+|[^ ]", java.util.regex.Pattern.DOTALL)
                    .matcher(tape);
            while (m.find()) {
                tokens.add(m.group());
                places.add(m.start());
            }
        }

        private static void close(StringBuilder open) {
            while (open.length() > 0 && open.charAt(open.length() - 1) == '!') {
                open.setLength(open.length() - 1);
            }
        }

        private static int count(StringBuilder open, char sign) {
            return (int) open.chars().filter(c -> c == sign).count();
        }

        private static boolean isWord(String token) {
            return token.matches("[a-z]+|[0-9]+");
        }

        private boolean isOperand(String token) {
            String names = law.key.equals("pace") ? "[wrb]" : law.key.equals("fee") ? "[st]" : "[fm]";
            return token.matches("[0-9]{1,4}|" + names);
        }
    }

    private World now = new World();
    private World image = null;
    private String tape = "";
    private final List<List<Integer>> sheets = new ArrayList<>();
    private final int[] sorts = {-1, -1, -1, -1};
    private final Object[] slots = new Object[5];
    private final List<Integer> waits = new ArrayList<>();

    public Model() {
        for (int i = 0; i < 4; i++) {
            sheets.add(null);
        }
    }

    private static int loud(int kind) {
        return new int[] {2, 1, 3, 1, 4, 0}[kind];
    }

    private static int worth(Wagon c) {
        int w = c.weight;
        return new int[] {w, w + 8, 99 - w, 2 * w + 16, 96 - w, 4}[c.kind];
    }

    private static boolean under(int kind, int wanted) {
        for (int k = kind; k >= 0; k = ABOVE[k]) {
            if (k == wanted) {
                return true;
            }
        }
        return false;
    }

    private static boolean in(int v, int least, int most) {
        return least <= v && v <= most;
    }

    private boolean car(int car) {
        return in(car, 0, now.cars.size() - 1);
    }

    public int car(int kind, int foot, int weight) {
        if (!in(kind, 0, 5) || !in(foot, 0, 239) || !in(weight, 1, 99)) {
            return BAD;
        }
        if (now.cars.size() == 8) {
            return FULL;
        }
        now.cars.add(new Wagon(kind, foot, weight));
        return now.cars.size() - 1;
    }

    public int told(int car, int what) {
        if (!car(car) || !in(what, 0, 10)) {
            return BAD;
        }
        Wagon c = now.cars.get(car);
        return new int[] {c.kind, c.foot, c.weight, c.screams, c.missed, c.stood, c.rounds,
            now.pace(c, c.foot / 20), now.room(car), loud(c.kind), worth(c)}[what];
    }

    public int pace(int car, int part) {
        return car(car) && in(part, 0, 11) ? now.pace(now.cars.get(car), part) : BAD;
    }

    public int as(int car, int kind) {
        if (!car(car) || !in(kind, 0, 5)) {
            return BAD;
        }
        return under(now.cars.get(car).kind, kind) ? now.cars.get(car).weight : KIND;
    }

    public int turns(int car, int kind) {
        if (!car(car) || !in(kind, 0, 5)) {
            return BAD;
        }
        int was = now.cars.get(car).kind;
        now.cars.get(car).kind = kind;
        return was;
    }

    public int set(int car, int what, int v) {
        if (!car(car) || !in(what, 1, 2) || !(what == 1 ? in(v, 0, 239) : in(v, 1, 99))) {
            return BAD;
        }
        int was = told(car, what);
        if (what == 1) {
            now.cars.get(car).foot = v;
        } else {
            now.cars.get(car).weight = v;
        }
        return was;
    }

    public int part(int part, int what) {
        if (!in(part, 0, 11) || !in(what, 0, 3)) {
            return BAD;
        }
        return new int[] {now.rise[part], now.brake[part], now.scare[part], now.set[part]}[what];
    }

    public int lays(int part, int what, int v) {
        if (!in(part, 0, 11) || !in(what, 0, 2) || !in(v, what == 0 ? -9 : 0, what == 2 ? 60 : 9)) {
            return BAD;
        }
        int was = part(part, what);
        (what == 0 ? now.rise : what == 1 ? now.brake : now.scare)[part] = v;
        if (what == 2) {
            now.set[part] = 0;
        }
        return was;
    }

    public int gap(int v) {
        if (!in(v, 1, 60)) {
            return BAD;
        }
        int was = now.gap;
        now.gap = v;
        return was;
    }

    private int draw(int by) {
        now.z = now.z * 1103515245 + 12345;
        return (now.z >>> 8) % by;
    }

    public int deal(int n) {
        if (!in(n, 1, 8)) {
            return BAD;
        }
        int came = 0;
        while (came < n && now.cars.size() < 8) {
            now.cars.add(new Wagon(draw(6), draw(240), 1 + draw(99)));
            came++;
        }
        return came;
    }

    public int seed(int v) {
        int was = now.z;
        now.z = v;
        return was;
    }

    public int seconds(int n) {
        if (!in(n, 1, 300)) {
            return BAD;
        }
        int was = now.screams();
        for (int i = 0; i < n && now.second < 9999; i++) {
            now.second();
        }
        return now.screams() - was;
    }

    public int ride(int what) {
        if (!in(what, 0, 5)) {
            return BAD;
        }
        int near = 0;
        for (int car = 0; car < now.cars.size(); car++) {
            near += now.room(car) < 0 ? 1 : 0;
        }
        return new int[] {now.screams(), now.missed(), now.stood(), now.rounds(), now.feet(), near}[what];
    }

    public int lamps() {
        int lit = 0;
        for (Wagon c : now.cars) {
            lit |= 1 << c.foot / 20;
        }
        return lit;
    }

    public int behind(int n, int what) {
        if (!in(n, 0, 300) || !in(what, 0, 3 + now.cars.size())) {
            return BAD;
        }
        World w = now.after(n);
        return what > 3 ? w.cars.get(what - 4).foot : new int[] {w.screams(), w.missed(), w.stood(), w.rounds()}[what];
    }

    public int stands() {
        World w = now.twin();
        for (int n = 1; n <= 300; n++) {
            w.second();
            if (w.stood() > now.stood()) {
                return n;
            }
        }
        return NONE;
    }

    /** Of worlds, each with what it is told as, the first that is worth most. */
    private static int first(List<Integer> worths, int what) {
        int best = 0;
        for (int i = 1; i < worths.size(); i++) {
            if (worths.get(i) > worths.get(best)) {
                best = i;
            }
        }
        return what == 0 ? best : worths.get(best);
    }

    public int brake(int part, int n, int what) {
        if (!in(part, 0, 11) || !in(n, 1, 100) || !in(what, 0, 1)) {
            return BAD;
        }
        List<Integer> worths = new ArrayList<>();
        for (int b = 0; b < 10; b++) {
            World w = now.twin();
            w.brake[part] = b;
            w = w.after(n);
            worths.add(w.screams() - w.stood());
        }
        return first(worths, what);
    }

    public int moved(int part, int other, int n) {
        if (!in(part, 0, 11) || !in(other, 0, 11) || part == other || !in(n, 1, 100)) {
            return BAD;
        }
        World w = now.twin();
        w.scare[part] = now.scare[other];
        w.scare[other] = now.scare[part];
        w.set[part] = now.set[other];
        w.set[other] = now.set[part];
        return w.after(n).screams() - now.after(n).screams();
    }

    public int off(int n, int what) {
        if (!in(n, 1, 100) || !in(what, 0, 1)) {
            return BAD;
        }
        if (now.cars.isEmpty()) {
            return NONE;
        }
        List<Integer> worths = new ArrayList<>();
        for (int car = 0; car < now.cars.size(); car++) {
            World w = now.twin();
            w.cars.remove(car);
            worths.add(w.after(n).screams());
        }
        return first(worths, what);
    }

    public int kind(int car, int n, int what) {
        if (!car(car) || !in(n, 1, 100) || !in(what, 0, 1)) {
            return BAD;
        }
        List<Integer> worths = new ArrayList<>();
        for (int kind = 0; kind < 6; kind++) {
            World w = now.twin();
            w.cars.get(car).kind = kind;
            worths.add(w.after(n).screams());
        }
        return first(worths, what);
    }

    public int kiss(int part, int n) {
        if (!in(part, 0, 11) || !in(n, 1, 100)) {
            return BAD;
        }
        World w = now.twin();
        w.brake[part] = 9;
        return now.after(n).screams() - w.after(n).screams();
    }

    public int gaps(int n) {
        if (!in(n, 1, 60)) {
            return BAD;
        }
        int greatest = NONE;
        for (int gap = 1; gap <= 60; gap++) {
            World w = now.twin();
            w.gap = gap;
            if (w.after(n).stood() == now.stood()) {
                greatest = gap;
            }
        }
        return greatest;
    }

    public int weighed(int sheet, int car, int what) {
        if (!in(sheet, 0, 3) || !car(car) || !in(what, 0, 1)) {
            return BAD;
        }
        List<Integer> row = sheets.get(sheet);
        if (row == null) {
            return NOTHING;
        }
        List<Integer> worths = new ArrayList<>();
        for (int i = 0; i < 20; i++) {
            World w = now.twin();
            w.cars.get(car).weight = 1 + 5 * i;
            int apart = 0;
            for (int k = 0; k < row.size(); k++) {
                if (row.get(k) != null) {
                    apart += Math.abs(w.after(k).cars.get(car).foot - row.get(k));
                }
            }
            worths.add(-apart);
        }
        return what == 0 ? 1 + 5 * first(worths, 0) : -first(worths, 1);
    }

    public int fee() {
        int law = now.lawOf("fee");
        return law < 0 ? now.screams() : new Worker(now.laws.get(law), "st", now.screams(), now.second).value();
    }

    public int fine(int car) {
        if (!car(car)) {
            return BAD;
        }
        Wagon c = now.cars.get(car);
        int law = now.lawOf("fine");
        return law < 0 ? c.missed : new Worker(now.laws.get(law), "fm", c.foot, c.missed).value();
    }

    public int feed(int a, int b, int c) {
        if (tape.length() + 12 > 96) {
            return FULL;
        }
        for (int v : new int[] {a, b, c}) {
            for (byte one : java.nio.ByteBuffer.allocate(4).putInt(v).array()) {
                tape += (char) (one & 255);
            }
        }
        return tape.length();
    }

    public int trim(int n) {
        if (!in(n, 0, tape.length())) {
            return BAD;
        }
        tape = tape.substring(0, n);
        return n;
    }

    public int text() {
        Scanner read = new Scanner(tape);
        tape = "";
        if (read.fault >= 0) {
            return -100 - read.fault;
        }
        if (now.laws.size() == 14) {
            return FULL;
        }
        now.laws.add(read.law);
        return now.laws.size() - 1;
    }

    public int textTold(int text, int what) {
        if (!in(text, 0, now.laws.size() - 1) || !in(what, 0, 1)) {
            return BAD;
        }
        Law law = now.laws.get(text);
        return what == 1 ? law.operands : List.of("pace", "fee", "fine").indexOf(law.key);
    }

    public int why(int key) {
        if (!in(key, 0, 2)) {
            return BAD;
        }
        int law = now.lawOf(List.of("pace", "fee", "fine").get(key));
        return law < 0 ? NONE : law;
    }

    public int sheet(int sheet, int sort, int n) {
        if (!in(sheet, 0, 3) || !in(sort, -1, 1) || sort >= 0 && n > 24) {
            return BAD;
        }
        if (sort >= 0 && n < 0) {
            return SIZE;
        }
        List<Integer> row = new ArrayList<>();
        for (int i = 0; i < n; i++) {
            if (sort >= 0) {
                row.add(0);
            }
        }
        sorts[sheet] = sort;
        sheets.set(sheet, sort < 0 ? null : row);
        return row.size();
    }

    public int mark(int sheet, int place, int v) {
        if (!in(sheet, 0, 3)) {
            return BAD;
        }
        List<Integer> row = sheets.get(sheet);
        if (row == null) {
            return NOTHING;
        }
        if (!in(place, 0, row.size() - 1)) {
            return INDEX;
        }
        if (sorts[sheet] == 0) {
            if (v == NONE) {
                return KIND;
            }
            row.set(place, (v & 0xffff) > 32767 ? (v & 0xffff) - 65536 : v & 0xffff);
            return 1;
        }
        if (v != NONE && !in(v, -99999, 99999)) {
            return BAD;
        }
        row.set(place, v == NONE ? null : Integer.valueOf(v));
        return 1;
    }

    public int pour(int sheet) {
        if (!in(sheet, 0, 3)) {
            return BAD;
        }
        if (sheets.get(sheet) == null) {
            return NOTHING;
        }
        int[] was = now.rise.clone();
        for (int part = 0; part < Math.min(12, sheets.get(sheet).size()); part++) {
            Integer v = sheets.get(sheet).get(part);
            if (v != null) {
                now.rise[part] = v > 9 ? 9 : v < -9 ? -9 : v;
            }
        }
        int otherwise = 0;
        for (int part = 0; part < 12; part++) {
            otherwise += was[part] == now.rise[part] ? 0 : 1;
        }
        return otherwise;
    }

    public int reads(int sheet) {
        if (!in(sheet, 0, 3)) {
            return BAD;
        }
        if (sheets.get(sheet) == null) {
            return NOTHING;
        }
        for (int k = 0; k < sheets.get(sheet).size(); k++) {
            Integer v = sheets.get(sheet).get(k);
            if (v != null && (k >= now.cars.size() || now.cars.get(k).foot != v)) {
                return k;
            }
        }
        return NONE;
    }

    public int copy(int from, int place, int to, int at, int many) {
        if (!in(from, 0, 3) || !in(to, 0, 3)) {
            return BAD;
        }
        if (sheets.get(from) == null || sheets.get(to) == null) {
            return NOTHING;
        }
        if (sorts[from] != sorts[to]) {
            return KIND;
        }
        List<Integer> were = new ArrayList<>(sheets.get(from));
        boolean there = place >= 0 && at >= 0 && many >= 0 && (long) place + many <= were.size()
                && (long) at + many <= sheets.get(to).size();
        if (!there) {
            return INDEX;
        }
        for (int i = 0; i < many; i++) {
            sheets.get(to).set(at + i, were.get(place + i));
        }
        return many;
    }

    public int lay(int slot, int thing, int k) {
        if (!in(slot, 0, 4) || !in(thing, 0, 3) || thing == 1 && !car(k) || thing == 2 && !in(k, 0, 3)) {
            return BAD;
        }
        if (thing == 2 && sheets.get(k) == null) {
            return NOTHING;
        }
        Object was = slots[slot];
        switch (thing) {
            case 0: slots[slot] = null; break;
            case 1: slots[slot] = now.cars.get(k).twin(); break;
            case 2: slots[slot] = new ArrayList<>(sheets.get(k)); break;
            default: slots[slot] = k; break;
        }
        return was == null ? 0 : was instanceof Wagon ? 1 : was instanceof Integer ? 3 : 2;
    }

    public int ask(int slot, int kind) {
        if (!in(slot, 0, 4) || !in(kind, 0, 5)) {
            return BAD;
        }
        if (slots[slot] == null) {
            return NOTHING;
        }
        return slots[slot] instanceof Wagon c && under(c.kind, kind) ? worth(c) : KIND;
    }

    public int item(int slot, int place) {
        if (!in(slot, 0, 4)) {
            return BAD;
        }
        if (slots[slot] == null) {
            return NOTHING;
        }
        if (!(slots[slot] instanceof List<?> row)) {
            return KIND;
        }
        if (!in(place, 0, row.size() - 1)) {
            return INDEX;
        }
        return row.get(place) instanceof Integer v ? v : KIND;
    }

    public int rest(int slot, int n) {
        if (!in(slot, 0, 4)) {
            return BAD;
        }
        if (slots[slot] == null) {
            return NOTHING;
        }
        if (!(slots[slot] instanceof Integer v)) {
            return KIND;
        }
        return n == 0 ? NO : (int) ((long) v - (long) v / n * n);
    }

    public int tell(int v) {
        if (waits.size() == 60) {
            return FULL;
        }
        waits.add(v);
        return waits.size();
    }

    /** What check(n) would have to be told, as far as there is an image; for ModelTest to tell it. */
    List<Integer> dueToBeTold(int n) {
        List<Integer> due = new ArrayList<>();
        if (image != null) {
            World w = image.twin();
            for (int i = 0; i < n && w.second < 9999; i++) {
                w.second();
                due.add(w.feet());
                due.add(w.screams());
            }
        }
        return due;
    }

    public int check(int n) {
        List<Integer> told = new ArrayList<>(waits);
        waits.clear();
        if (!in(n, 1, 30)) {
            return BAD;
        }
        if (image == null) {
            return NO;
        }
        List<Integer> due = dueToBeTold(n);
        int same = 0;
        while (same < told.size() && same < due.size() && told.get(same).equals(due.get(same))) {
            same++;
        }
        return told.equals(due) ? 0 : 1 + same;
    }

    public int keep() {
        image = now.twin();
        return now.cars.size();
    }

    public int back() {
        if (image == null) {
            return NO;
        }
        now = image.twin();
        return now.cars.size();
    }

    public int count(int what) {
        if (!in(what, 0, 7)) {
            return BAD;
        }
        int scares = 0;
        for (int scare : now.scare) {
            scares += scare > 0 ? 1 : 0;
        }
        return new int[] {now.cars.size(), now.second, now.gap, scares, now.laws.size(), waits.size(), tape.length(), now.z}[what];
    }
}
