/** The train that must not meet itself, as ../shared/DOC.md tells it; words in capitals are the document's. */
public final class GhostTrain {
    public static final int BAD = -1000000001, NO = -1000000002, FULL = -1000000003, NONE = -1000000005, NOTHING = -1000000011, KIND = -1000000012, INDEX = -1000000013, SIZE = -1000000014;

    private static final int FEET = 240, PARTS = 12, PART_FEET = 20, CARS = 8, KINDS = 6;
    private static final int MOST_RISE = 9, MOST_BRAKE = 9, MOST_SCARE = 60, MOST_WEIGHT = 99, MOST_GAP = 60, MOST_PACE = 20;
    private static final int LAST_SECOND = 9999, FARTHEST = 300, FAR = 100, GAPS_FAR = 60, TOLD_FAR = 30;
    private static final int TAPE_BYTES = 96, TEXTS = 14, KEYS = 3, KEY_PACE = 0, KEY_FEE = 1, KEY_FINE = 2;
    private static final int SHEETS = 4, PLACES = 24, SLOTS = 5, WAITING = 60, MOST_FLOAT = 99999;

    // What is told of a PART, in the order of part(part, what).
    private static final int RISE = 0, BRAKE = 1, SCARE = 2, SET = 3, PART_ROWS = 4;
    // What is told of a CAR, in the order of told(car, what); the rows below CAR_ROWS are held, the others worked out.
    private static final int OF_KIND = 0, FOOT = 1, WEIGHT = 2, SCREAMS = 3, MISSED = 4, STOOD = 5, ROUNDS = 6, CAR_ROWS = 7;
    // What a SLOT holds, in the order of lay(slot, thing, k).
    private static final int NO_THING = 0, A_CAR = 1, A_SHEET = 2, A_NUMBER = 3;
    private static final int MISSING = -1, SHORTS = 0, FLOATS = 1;

    private final CarKind[] kinds = {new CarKind(), new HeavyKind(), new LightKind(), new IronKind(), new BridalKind(), new GhostKind()};
    private final Text[] texts = new Text[TEXTS + 1];
    private final Tape tape = new Tape();
    private final Ring now = new Ring(kinds, texts);
    private final Ring thought = new Ring(kinds, texts);
    private final Ring image = new Ring(kinds, texts);
    private boolean imageKept = false;
    private final Sheet[] sheets = new Sheet[SHEETS];
    private final Slot[] slots = new Slot[SLOTS];
    private final int[] waiting = new int[WAITING];
    private int waitingCount = 0;

    public GhostTrain() {
        // One TEXT more than are kept: a TAPE is read into it when there is no room, for its FAULT goes before FULL.
        for (int i = 0; i < texts.length; i++) {
            texts[i] = new Text();
        }
        for (int i = 0; i < sheets.length; i++) {
            sheets[i] = new Sheet();
        }
        for (int i = 0; i < slots.length; i++) {
            slots[i] = new Slot();
        }
    }

    // ---- cars, parts

    public int car(int kind, int foot, int weight) {
        if (!isKind(kind) || !isFoot(foot) || !isWeight(weight)) {
            return BAD;
        }
        return now.carCount >= CARS ? FULL : now.addCar(kind, foot, weight);
    }

    public int told(int car, int what) {
        if (!isCar(car)) {
            return BAD;
        }
        if (what >= 0 && what < CAR_ROWS) {
            return now.cars[what][car];
        }
        switch (what) {
            case 7: return now.paceIn(car, now.partOf(car));
            case 8: return now.roomOf(car);
            case 9: return now.kindOf(car).loudness();
            case 10: return now.kindOf(car).worthOf(now.cars[WEIGHT][car]);
            default: return BAD;
        }
    }

    public int pace(int car, int part) {
        return isCar(car) && isPart(part) ? now.paceIn(car, part) : BAD;
    }

    public int as(int car, int kind) {
        if (!isCar(car) || !isKind(kind)) {
            return BAD;
        }
        return now.kindOf(car).isUnder(kind) ? now.cars[WEIGHT][car] : KIND;
    }

    public int turns(int car, int kind) {
        if (!isCar(car) || !isKind(kind)) {
            return BAD;
        }
        int before = now.cars[OF_KIND][car];
        now.cars[OF_KIND][car] = kind;
        return before;
    }

    public int set(int car, int what, int v) {
        boolean fits = what == FOOT && isFoot(v) || what == WEIGHT && isWeight(v);
        if (!isCar(car) || !fits) {
            return BAD;
        }
        int before = now.cars[what][car];
        now.cars[what][car] = v;
        return before;
    }

    public int part(int part, int what) {
        return isPart(part) && isWithin(what, 0, PART_ROWS - 1) ? now.parts[what][part] : BAD;
    }

    public int lays(int part, int what, int v) {
        boolean fits = what == RISE && isWithin(v, -MOST_RISE, MOST_RISE)
                || what == BRAKE && isWithin(v, 0, MOST_BRAKE)
                || what == SCARE && isWithin(v, 0, MOST_SCARE);
        if (!isPart(part) || !fits) {
            return BAD;
        }
        int before = now.parts[what][part];
        now.parts[what][part] = v;
        if (what == SCARE) {
            now.parts[SET][part] = 0;
        }
        return before;
    }

    public int gap(int v) {
        if (!isWithin(v, 1, MOST_GAP)) {
            return BAD;
        }
        int before = now.gap;
        now.gap = v;
        return before;
    }

    public int deal(int n) {
        if (!isWithin(n, 1, CARS)) {
            return BAD;
        }
        int coming = Math.min(n, CARS - now.carCount);
        for (int i = 0; i < coming; i++) {
            int kind = now.draw() % KINDS;
            int foot = now.draw() % FEET;
            int weight = 1 + now.draw() % MOST_WEIGHT;
            now.addCar(kind, foot, weight);
        }
        return coming;
    }

    public int seed(int v) {
        int before = now.z;
        now.z = v;
        return before;
    }

    // ---- seconds

    public int seconds(int n) {
        if (!isWithin(n, 1, FARTHEST)) {
            return BAD;
        }
        int before = now.totalOf(SCREAMS);
        now.passSeconds(Math.min(n, LAST_SECOND - now.second));
        return now.totalOf(SCREAMS) - before;
    }

    public int ride(int what) {
        switch (what) {
            case 0: return now.totalOf(SCREAMS);
            case 1: return now.totalOf(MISSED);
            case 2: return now.totalOf(STOOD);
            case 3: return now.totalOf(ROUNDS);
            case 4: return now.totalOf(FOOT);
            case 5: return now.near();
            default: return BAD;
        }
    }

    public int lamps() {
        int lit = 0;
        for (int car = 0; car < now.carCount; car++) {
            lit |= 1 << now.partOf(car);
        }
        return lit;
    }

    // ---- what will be

    public int behind(int n, int what) {
        boolean ofAll = isWithin(what, 0, 3);
        boolean ofCar = what >= 4 && isCar(what - 4);
        if (!isWithin(n, 0, FARTHEST) || !ofAll && !ofCar) {
            return BAD;
        }
        thought.become(now);
        thought.passSeconds(n);
        return ofAll ? thought.totalOf(SCREAMS + what) : thought.cars[FOOT][what - 4];
    }

    public int stands() {
        thought.become(now);
        int before = now.totalOf(STOOD);
        for (int n = 1; n <= FARTHEST; n++) {
            thought.passSeconds(1);
            if (thought.totalOf(STOOD) > before) {
                return n;
            }
        }
        return NONE;
    }

    public int brake(int part, int n, int what) {
        if (!isPart(part) || !isFar(n) || !isWithin(what, 0, 1)) {
            return BAD;
        }
        int best = NONE;
        int most = 0;
        for (int brake = 0; brake <= MOST_BRAKE; brake++) {
            thought.become(now);
            thought.parts[BRAKE][part] = brake;
            int screams = thoughtScreams(n) - thought.totalOf(STOOD);
            if (best == NONE || screams > most) {
                best = brake;
                most = screams;
            }
        }
        return what == 0 ? best : most;
    }

    public int moved(int part, int other, int n) {
        if (!isPart(part) || !isPart(other) || part == other || !isFar(n)) {
            return BAD;
        }
        thought.become(now);
        int asItIs = thoughtScreams(n);
        thought.become(now);
        thought.changeScares(part, other);
        return thoughtScreams(n) - asItIs;
    }

    public int off(int n, int what) {
        if (!isFar(n) || !isWithin(what, 0, 1)) {
            return BAD;
        }
        int best = NONE;
        int most = NONE;
        for (int car = 0; car < now.carCount; car++) {
            thought.become(now);
            thought.dropCar(car);
            int screams = thoughtScreams(n);
            if (best == NONE || screams > most) {
                best = car;
                most = screams;
            }
        }
        return what == 0 ? best : most;
    }

    public int kind(int car, int n, int what) {
        if (!isCar(car) || !isFar(n) || !isWithin(what, 0, 1)) {
            return BAD;
        }
        int best = NONE;
        int most = 0;
        for (int kind = 0; kind < KINDS; kind++) {
            thought.become(now);
            thought.cars[OF_KIND][car] = kind;
            int screams = thoughtScreams(n);
            if (best == NONE || screams > most) {
                best = kind;
                most = screams;
            }
        }
        return what == 0 ? best : most;
    }

    public int kiss(int part, int n) {
        if (!isPart(part) || !isFar(n)) {
            return BAD;
        }
        thought.become(now);
        int asItIs = thoughtScreams(n);
        thought.become(now);
        thought.parts[BRAKE][part] = MOST_BRAKE;
        return asItIs - thoughtScreams(n);
    }

    public int gaps(int n) {
        if (!isWithin(n, 1, GAPS_FAR)) {
            return BAD;
        }
        for (int gap = MOST_GAP; gap >= 1; gap--) {
            if (nobodyStands(gap, n)) {
                return gap;
            }
        }
        return NONE;
    }

    public int weighed(int sheet, int car, int what) {
        if (!isSheet(sheet) || !isCar(car) || !isWithin(what, 0, 1)) {
            return BAD;
        }
        if (sheets[sheet].isMissing()) {
            return NOTHING;
        }
        int best = NONE;
        int least = 0;
        for (int weight = 1; weight <= 96; weight += 5) {
            int differences = differencesWith(weight, car, sheets[sheet]);
            if (best == NONE || differences < least) {
                best = weight;
                least = differences;
            }
        }
        return what == 0 ? best : least;
    }

    public int fee() {
        int screams = now.totalOf(SCREAMS);
        int counts = now.counting[KEY_FEE];
        return counts < 0 ? screams : texts[counts].gives(screams, now.second, 0);
    }

    public int fine(int car) {
        if (!isCar(car)) {
            return BAD;
        }
        int missed = now.cars[MISSED][car];
        int counts = now.counting[KEY_FINE];
        return counts < 0 ? missed : texts[counts].gives(now.cars[FOOT][car], missed, 0);
    }

    // ---- texts

    public int feed(int a, int b, int c) {
        if (tape.length > TAPE_BYTES - 12) {
            return FULL;
        }
        tape.addFour(a);
        tape.addFour(b);
        tape.addFour(c);
        return tape.length;
    }

    public int trim(int n) {
        if (!isWithin(n, 0, tape.length)) {
            return BAD;
        }
        tape.length = n;
        return n;
    }

    public int text() {
        int number = now.textCount;
        boolean reads = tape.readInto(texts[number]);
        tape.length = 0;
        if (!reads) {
            return -100 - tape.start;
        }
        if (number >= TEXTS) {
            return FULL;
        }
        now.counting[texts[number].key] = number;
        now.textCount = number + 1;
        return number;
    }

    public int textTold(int text, int what) {
        if (!isWithin(text, 0, now.textCount - 1) || !isWithin(what, 0, 1)) {
            return BAD;
        }
        return what == 0 ? texts[text].key : texts[text].operands;
    }

    public int why(int key) {
        if (!isWithin(key, 0, KEYS - 1)) {
            return BAD;
        }
        return now.counting[key] < 0 ? NONE : now.counting[key];
    }

    // ---- sheets, slots

    public int sheet(int sheet, int sort, int n) {
        if (!isSheet(sheet) || !isWithin(sort, MISSING, FLOATS) || sort != MISSING && n > PLACES) {
            return BAD;
        }
        if (sort != MISSING && n < 0) {
            return SIZE;
        }
        int size = sort == MISSING ? 0 : n;
        sheets[sheet].renew(sort, size);
        return size;
    }

    public int mark(int sheet, int place, int v) {
        if (!isSheet(sheet)) {
            return BAD;
        }
        Sheet row = sheets[sheet];
        if (row.isMissing()) {
            return NOTHING;
        }
        if (!row.has(place, 1)) {
            return INDEX;
        }
        if (row.sort == SHORTS && v == NONE) {
            return KIND;
        }
        if (row.sort == FLOATS && v != NONE && !isWithin(v, -MOST_FLOAT, MOST_FLOAT)) {
            return BAD;
        }
        row.places[place] = row.sort == SHORTS ? (short) v : v;
        return 1;
    }

    public int pour(int sheet) {
        if (!isSheet(sheet)) {
            return BAD;
        }
        Sheet row = sheets[sheet];
        if (row.isMissing()) {
            return NOTHING;
        }
        int otherwise = 0;
        for (int part = 0; part < PARTS && part < row.size; part++) {
            int rise = held(row.places[part], -MOST_RISE, MOST_RISE);
            if (row.isNumber(part) && now.parts[RISE][part] != rise) {
                now.parts[RISE][part] = rise;
                otherwise++;
            }
        }
        return otherwise;
    }

    public int reads(int sheet) {
        if (!isSheet(sheet)) {
            return BAD;
        }
        Sheet row = sheets[sheet];
        if (row.isMissing()) {
            return NOTHING;
        }
        for (int place = 0; place < row.size; place++) {
            boolean isFootOfCar = isCar(place) && row.places[place] == now.cars[FOOT][place];
            if (row.isNumber(place) && !isFootOfCar) {
                return place;
            }
        }
        return NONE;
    }

    public int copy(int from, int place, int to, int at, int many) {
        if (!isSheet(from) || !isSheet(to)) {
            return BAD;
        }
        Sheet source = sheets[from];
        Sheet target = sheets[to];
        if (source.isMissing() || target.isMissing()) {
            return NOTHING;
        }
        if (source.sort != target.sort) {
            return KIND;
        }
        if (!source.has(place, many) || !target.has(at, many)) {
            return INDEX;
        }
        System.arraycopy(source.places, place, target.places, at, many);
        return many;
    }

    public int lay(int slot, int thing, int k) {
        boolean fits = thing == NO_THING || thing == A_NUMBER
                || thing == A_CAR && isCar(k) || thing == A_SHEET && isSheet(k);
        if (!isSlot(slot) || !fits) {
            return BAD;
        }
        if (thing == A_SHEET && sheets[k].isMissing()) {
            return NOTHING;
        }
        Slot held = slots[slot];
        int before = held.thing;
        held.thing = thing;
        if (thing == A_CAR) {
            held.kind = now.kindOf(k);
            held.weight = now.cars[WEIGHT][k];
        } else if (thing == A_SHEET) {
            held.row.become(sheets[k]);
        } else {
            held.number = k;
        }
        return before;
    }

    public int ask(int slot, int kind) {
        if (!isSlot(slot) || !isKind(kind)) {
            return BAD;
        }
        Slot held = slots[slot];
        if (held.thing == NO_THING) {
            return NOTHING;
        }
        if (held.thing != A_CAR || held.kind == null || !held.kind.isUnder(kind)) {
            return KIND;
        }
        return held.kind.worthOf(held.weight);
    }

    public int item(int slot, int place) {
        if (!isSlot(slot)) {
            return BAD;
        }
        Slot held = slots[slot];
        if (held.thing == NO_THING) {
            return NOTHING;
        }
        if (held.thing != A_SHEET) {
            return KIND;
        }
        if (!held.row.has(place, 1)) {
            return INDEX;
        }
        return held.row.isNumber(place) ? held.row.places[place] : KIND;
    }

    public int rest(int slot, int n) {
        if (!isSlot(slot)) {
            return BAD;
        }
        Slot held = slots[slot];
        if (held.thing == NO_THING) {
            return NOTHING;
        }
        if (held.thing != A_NUMBER) {
            return KIND;
        }
        return n == 0 ? NO : held.number % n;
    }

    // ---- rows, images

    public int tell(int v) {
        if (waitingCount >= WAITING) {
            return FULL;
        }
        waiting[waitingCount] = v;
        waitingCount++;
        return waitingCount;
    }

    public int check(int n) {
        int waited = waitingCount;
        waitingCount = 0;
        if (!isWithin(n, 1, TOLD_FAR)) {
            return BAD;
        }
        if (!imageKept) {
            return NO;
        }
        thought.become(image);
        int due = 2 * Math.min(n, LAST_SECOND - image.second);
        for (int i = 0; i < due; i++) {
            if (i % 2 == 0) {
                thought.passSeconds(1);
            }
            int number = thought.totalOf(i % 2 == 0 ? FOOT : SCREAMS);
            if (i >= waited || waiting[i] != number) {
                return 1 + i;
            }
        }
        return waited > due ? 1 + due : 0;
    }

    public int keep() {
        image.become(now);
        imageKept = true;
        return now.carCount;
    }

    public int back() {
        if (!imageKept) {
            return NO;
        }
        now.become(image);
        return now.carCount;
    }

    public int count(int what) {
        switch (what) {
            case 0: return now.carCount;
            case 1: return now.second;
            case 2: return now.gap;
            case 3: return now.scareCount();
            case 4: return now.textCount;
            case 5: return waitingCount;
            case 6: return tape.length;
            case 7: return now.z;
            default: return BAD;
        }
    }

    // ---- what the calls share

    private int thoughtScreams(int n) {
        thought.passSeconds(n);
        return thought.totalOf(SCREAMS);
    }

    /** STOOD never becomes less, so the first one that stands decides. */
    private boolean nobodyStands(int gap, int n) {
        thought.become(now);
        thought.gap = gap;
        int before = now.totalOf(STOOD);
        for (int i = 0; i < n && thought.totalOf(STOOD) == before; i++) {
            thought.passSeconds(1);
        }
        return thought.totalOf(STOOD) == before;
    }

    private int differencesWith(int weight, int car, Sheet row) {
        thought.become(now);
        thought.cars[WEIGHT][car] = weight;
        int differences = 0;
        for (int k = 0; k < row.size; k++) {
            if (k > 0) {
                thought.passSeconds(1);
            }
            if (row.isNumber(k)) {
                differences += Math.abs(thought.cars[FOOT][car] - row.places[k]);
            }
        }
        return differences;
    }

    private boolean isCar(int car) {
        return car >= 0 && car < now.carCount;
    }

    private static boolean isPart(int part) {
        return part >= 0 && part < PARTS;
    }

    private static boolean isKind(int kind) {
        return kind >= 0 && kind < KINDS;
    }

    private static boolean isSheet(int sheet) {
        return sheet >= 0 && sheet < SHEETS;
    }

    private static boolean isSlot(int slot) {
        return slot >= 0 && slot < SLOTS;
    }

    private static boolean isFoot(int foot) {
        return foot >= 0 && foot < FEET;
    }

    private static boolean isWeight(int weight) {
        return isWithin(weight, 1, MOST_WEIGHT);
    }

    private static boolean isFar(int n) {
        return isWithin(n, 1, FAR);
    }

    private static boolean isWithin(int v, int least, int most) {
        return v >= least && v <= most;
    }

    private static int held(int v, int least, int most) {
        return Math.max(least, Math.min(most, v));
    }

    /** The KIND above all others; a KIND under it overrides what it does otherwise. */
    private static class CarKind {
        boolean isUnder(int kind) {
            return kind == 0;
        }

        int gains(int asCar, int rise, int brake) {
            return asCar;
        }

        int loudness() {
            return 2;
        }

        int worthOf(int weight) {
            return weight;
        }
    }

    private static class HeavyKind extends CarKind {
        boolean isUnder(int kind) {
            return kind == 1 || super.isUnder(kind);
        }

        int gains(int asCar, int rise, int brake) {
            return rise < 0 ? Math.min(MOST_PACE, asCar + 2) : asCar;
        }

        int loudness() {
            return 1;
        }

        int worthOf(int weight) {
            return weight + 8;
        }
    }

    private static class LightKind extends CarKind {
        boolean isUnder(int kind) {
            return kind == 2 || super.isUnder(kind);
        }

        int gains(int asCar, int rise, int brake) {
            return Math.max(1, asCar / 2);
        }

        int loudness() {
            return 3;
        }

        int worthOf(int weight) {
            return 99 - weight;
        }
    }

    private static final class IronKind extends HeavyKind {
        boolean isUnder(int kind) {
            return kind == 3 || super.isUnder(kind);
        }

        int gains(int asCar, int rise, int brake) {
            int asHeavy = super.gains(asCar, rise, brake);
            return rise > 0 ? Math.max(1, asHeavy - 1) : asHeavy;
        }

        int worthOf(int weight) {
            return 2 * super.worthOf(weight);
        }
    }

    private static final class BridalKind extends LightKind {
        boolean isUnder(int kind) {
            return kind == 4 || super.isUnder(kind);
        }

        int gains(int asCar, int rise, int brake) {
            return brake >= 5 ? 1 : super.gains(asCar, rise, brake);
        }

        int loudness() {
            return super.loudness() + 1;
        }

        int worthOf(int weight) {
            return super.worthOf(weight) - 3;
        }
    }

    private static final class GhostKind extends CarKind {
        boolean isUnder(int kind) {
            return kind == 5 || super.isUnder(kind);
        }

        int gains(int asCar, int rise, int brake) {
            return 7;
        }

        int loudness() {
            return 0;
        }

        int worthOf(int weight) {
            return 4;
        }
    }

    /** All that AN IMAGE keeps. One of them is as it is now, one is thought with, one is THE IMAGE. */
    private static final class Ring {
        final CarKind[] kinds;
        // Shared by all: a TEXT that a Ring counts among its own is never written again while it does.
        final Text[] texts;
        final int[][] parts = new int[PART_ROWS][PARTS];
        final int[][] cars = new int[CAR_ROWS][CARS];
        final int[] counting = {-1, -1, -1};
        int carCount = 0;
        int gap = 10;
        int second = 0;
        int z = 1;
        int textCount = 0;

        Ring(CarKind[] kinds, Text[] texts) {
            this.kinds = kinds;
            this.texts = texts;
        }

        void become(Ring other) {
            for (int row = 0; row < PART_ROWS; row++) {
                System.arraycopy(other.parts[row], 0, parts[row], 0, PARTS);
            }
            for (int row = 0; row < CAR_ROWS; row++) {
                System.arraycopy(other.cars[row], 0, cars[row], 0, CARS);
            }
            System.arraycopy(other.counting, 0, counting, 0, KEYS);
            carCount = other.carCount;
            gap = other.gap;
            second = other.second;
            z = other.z;
            textCount = other.textCount;
        }

        int addCar(int kind, int foot, int weight) {
            int car = carCount;
            for (int row = 0; row < CAR_ROWS; row++) {
                cars[row][car] = 0;
            }
            cars[OF_KIND][car] = kind;
            cars[FOOT][car] = foot;
            cars[WEIGHT][car] = weight;
            carCount++;
            return car;
        }

        /** The CARS behind it come one number down; the order by numbers, which is all that counts, stays. */
        void dropCar(int car) {
            carCount--;
            for (int row = 0; row < CAR_ROWS; row++) {
                System.arraycopy(cars[row], car + 1, cars[row], car, carCount - car);
            }
        }

        void changeScares(int part, int other) {
            for (int row = SCARE; row <= SET; row++) {
                int before = parts[row][part];
                parts[row][part] = parts[row][other];
                parts[row][other] = before;
            }
        }

        int draw() {
            z = z * 1103515245 + 12345;
            return z >>> 8;
        }

        void passSeconds(int n) {
            for (int i = 0; i < n; i++) {
                for (int part = 0; part < PARTS; part++) {
                    parts[SET][part] = Math.max(0, parts[SET][part] - 1);
                }
                for (int car = 0; car < carCount; car++) {
                    goOn(car);
                }
                second++;
            }
        }

        private void goOn(int car) {
            int from = cars[FOOT][car];
            int feet = Math.max(0, Math.min(roomOf(car), paceIn(car, partOf(car))));
            if (feet == 0) {
                cars[STOOD][car]++;
            }
            if (from + feet >= FEET) {
                cars[ROUNDS][car]++;
            }
            cars[FOOT][car] = (from + feet) % FEET;
            for (int part = from / PART_FEET + 1; part <= (from + feet) / PART_FEET; part++) {
                enter(car, part % PARTS);
            }
        }

        private void enter(int car, int part) {
            if (parts[SCARE][part] == 0) {
                return;
            }
            if (parts[SET][part] == 0) {
                cars[SCREAMS][car] += kindOf(car).loudness();
                parts[SET][part] = parts[SCARE][part];
            } else {
                cars[MISSED][car]++;
            }
        }

        CarKind kindOf(int car) {
            return kinds[cars[OF_KIND][car]];
        }

        int partOf(int car) {
            return cars[FOOT][car] / PART_FEET;
        }

        int paceIn(int car, int part) {
            int weight = cars[WEIGHT][car];
            int rise = parts[RISE][part];
            int brake = parts[BRAKE][part];
            int counts = counting[KEY_PACE];
            int given = counts < 0 ? 6 + weight / 20 - rise - brake : texts[counts].gives(weight, rise, brake);
            return kindOf(car).gains(held(given, 1, MOST_PACE), rise, brake);
        }

        int roomOf(int car) {
            if (carCount < 2) {
                return FEET;
            }
            int feetAhead = FEET;
            for (int other = 0; other < carCount; other++) {
                int feet = cars[FOOT][other] - cars[FOOT][car];
                if (feet < 0 || feet == 0 && other <= car) {
                    feet += FEET;
                }
                feetAhead = Math.min(feetAhead, feet);
            }
            return feetAhead - gap;
        }

        int near() {
            int tooNear = 0;
            for (int car = 0; car < carCount; car++) {
                if (roomOf(car) < 0) {
                    tooNear++;
                }
            }
            return tooNear;
        }

        int totalOf(int row) {
            int total = 0;
            for (int car = 0; car < carCount; car++) {
                total += cars[row][car];
            }
            return total;
        }

        int scareCount() {
            int scares = 0;
            for (int part = 0; part < PARTS; part++) {
                if (parts[SCARE][part] > 0) {
                    scares++;
                }
            }
            return scares;
        }
    }

    /** A TEXT in the order in which it is worked out: what an operator joins stands ahead of it. */
    private static final class Text {
        // Codes 0 .. 9999 are NUMBERS, those below 0 NAMES (-1 the first of its KEY), those from here on signs.
        static final int SIGNS = 10000;

        final int[] codes = new int[TAPE_BYTES];
        final int[] stack = new int[TAPE_BYTES];
        int length = 0;
        int key = 0;
        int operands = 0;

        void begin(int ofKey) {
            key = ofKey;
            length = 0;
            operands = 0;
        }

        void addNumber(int number) {
            add(number);
            operands++;
        }

        void addName(int name) {
            add(-1 - name);
            operands++;
        }

        void addSign(int sign) {
            add(SIGNS + sign);
        }

        private void add(int code) {
            if (length < codes.length) {
                codes[length] = code;
                length++;
            }
        }

        int gives(int first, int second, int third) {
            int top = 0;
            for (int i = 0; i < length; i++) {
                int code = codes[i];
                if (code >= SIGNS && code - SIGNS != '!') {
                    if (top >= 2) {
                        top--;
                        stack[top - 1] = joined(code - SIGNS, stack[top - 1], stack[top]);
                    }
                } else if (code >= SIGNS) {
                    if (top >= 1) {
                        stack[top - 1] = stack[top - 1] == 0 ? 1 : 0;
                    }
                } else if (top < stack.length) {
                    stack[top] = code >= 0 ? code : code == -1 ? first : code == -2 ? second : third;
                    top++;
                }
            }
            return stack[0];
        }

        private static int joined(int sign, int left, int right) {
            switch (sign) {
                case '|': return left != 0 || right != 0 ? 1 : 0;
                case '&': return left != 0 && right != 0 ? 1 : 0;
                case '<': return left < right ? 1 : 0;
                case '=': return left == right ? 1 : 0;
                case '>': return left > right ? 1 : 0;
                case '+': return left + right;
                case '-': return left - right;
                case '*': return left * right;
                default: return right == 0 ? 0 : left / right;
            }
        }
    }

    /** THE TAPE and how it is read, one word or sign at a time; where no TEXT goes on, start is the place of the FAULT. */
    private static final class Tape {
        static final int END = 0, LETTERS = 1, DIGITS = 2, SIGN = 3, BROKEN = 4;
        static final int DEEPEST = 8, LONGEST_NUMBER = 4, LEVELS = 5, LEVEL_OF_TESTS = 2;

        final int[] bytes = new int[TAPE_BYTES];
        int length = 0;
        int start = 0;
        private int after = 0;
        private int sort = END;

        void addFour(int v) {
            for (int shift = 24; shift >= 0; shift -= 8) {
                if (length < bytes.length) {
                    bytes[length] = v >>> shift & 255;
                    length++;
                }
            }
        }

        boolean readInto(Text text) {
            after = 0;
            sort = END;
            advance();
            int key = keyHere();
            if (key < 0) {
                return false;
            }
            text.begin(key);
            advance();
            return readLevel(text, 0, 0, 0) && sort == END;
        }

        /** The loosest level is 0; behind the last one come the PIECES. */
        private boolean readLevel(Text text, int level, int open, int denied) {
            if (level >= LEVELS) {
                return readPiece(text, open, denied);
            }
            if (!readLevel(text, level + 1, open, denied)) {
                return false;
            }
            int most = level == LEVEL_OF_TESTS ? 1 : length;
            for (int i = 0; i < most && isOneOf(operatorsOf(level)); i++) {
                int sign = bytes[start];
                advance();
                if (!readLevel(text, level + 1, open, denied)) {
                    return false;
                }
                text.addSign(sign);
            }
            return true;
        }

        private boolean readPiece(Text text, int open, int denied) {
            if (isOneOf("!") && denied < DEEPEST) {
                advance();
                if (!readPiece(text, open, denied + 1)) {
                    return false;
                }
                text.addSign('!');
                return true;
            }
            if (isOneOf("(") && open < DEEPEST) {
                advance();
                if (!readLevel(text, 0, open + 1, denied) || !isOneOf(")")) {
                    return false;
                }
                advance();
                return true;
            }
            return readOperand(text);
        }

        private boolean readOperand(Text text) {
            int name = nameHere(text.key);
            if (sort == DIGITS) {
                text.addNumber(numberHere());
            } else if (name >= 0) {
                text.addName(name);
            } else {
                return false;
            }
            advance();
            return true;
        }

        private void advance() {
            boolean behindWord = sort == LETTERS || sort == DIGITS;
            int from = after;
            while (after < length && bytes[after] == ' ') {
                after++;
            }
            boolean glued = behindWord && after == from;
            start = after;
            if (start >= length) {
                sort = END;
                return;
            }
            sort = sortOf(bytes[start]);
            after++;
            while (sort != SIGN && after < length && sortOf(bytes[after]) == sort) {
                after++;
            }
            if (glued && sort != SIGN || sort == DIGITS && after - start > LONGEST_NUMBER) {
                sort = BROKEN;
            }
        }

        private static int sortOf(int sign) {
            if (sign >= 'a' && sign <= 'z') {
                return LETTERS;
            }
            return sign >= '0' && sign <= '9' ? DIGITS : SIGN;
        }

        private static String operatorsOf(int level) {
            switch (level) {
                case 0: return "|";
                case 1: return "&";
                case LEVEL_OF_TESTS: return "<=>";
                case 3: return "+-";
                default: return "*/";
            }
        }

        private boolean isOneOf(String signs) {
            return sort == SIGN && signs.indexOf((char) bytes[start]) >= 0;
        }

        private int keyHere() {
            if (isWordHere("pace")) {
                return KEY_PACE;
            }
            if (isWordHere("fee")) {
                return KEY_FEE;
            }
            return isWordHere("fine") ? KEY_FINE : -1;
        }

        private boolean isWordHere(String word) {
            if (sort != LETTERS || after - start != word.length()) {
                return false;
            }
            for (int i = 0; i < word.length(); i++) {
                if (bytes[start + i] != word.charAt(i)) {
                    return false;
                }
            }
            return true;
        }

        private int nameHere(int key) {
            if (sort != LETTERS || after - start != 1) {
                return -1;
            }
            String names = key == KEY_PACE ? "wrb" : key == KEY_FEE ? "st" : "fm";
            return names.indexOf((char) bytes[start]);
        }

        private int numberHere() {
            int number = 0;
            for (int i = start; i < after; i++) {
                number = 10 * number + bytes[i] - '0';
            }
            return number;
        }
    }

    /** A row of shorts or floats; its floats are whole and small, so ints hold them, and NONE stands for NO NUMBER. */
    private static final class Sheet {
        final int[] places = new int[PLACES];
        int sort = MISSING;
        int size = 0;

        boolean isMissing() {
            return sort == MISSING;
        }

        boolean has(int place, int many) {
            return place >= 0 && many >= 0 && place <= size && many <= size - place;
        }

        boolean isNumber(int place) {
            return places[place] != NONE;
        }

        void renew(int ofSort, int ofSize) {
            sort = ofSort;
            size = ofSize;
            for (int place = 0; place < size; place++) {
                places[place] = 0;
            }
        }

        void become(Sheet other) {
            sort = other.sort;
            size = other.size;
            System.arraycopy(other.places, 0, places, 0, PLACES);
        }
    }

    /** Of a CAR only what WORTH hangs on is held. */
    private static final class Slot {
        int thing = NO_THING;
        CarKind kind = null;
        int weight = 0;
        final Sheet row = new Sheet();
        int number = 0;
    }
}
