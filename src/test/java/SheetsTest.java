/** Promises 32 to 40: sheets, slots. */
final class SheetsTest {
    private static final int BAD = GhostTrain.BAD;
    private static final int NONE = GhostTrain.NONE;
    private static final int NOTHING = GhostTrain.NOTHING;
    private static final int KIND = GhostTrain.KIND;
    private static final int INDEX = GhostTrain.INDEX;

    public static void main(String[] args) {
        sheet();
        markShorts();
        markFloats();
        pour();
        reads();
        copy();
        copyRefused();
        lay();
        ask();
        item();
        rest();
        Due.end();
    }

    /** A place of a SHEET, by way of slot 4. */
    private static int place(GhostTrain x, int sheet, int place) {
        x.lay(4, 2, sheet);
        return x.item(4, place);
    }

    private static void sheet() {
        GhostTrain x = new GhostTrain();
        Due.is(32, "24 shorts", x.sheet(0, 0, 24), 24);
        Due.is(32, "no floats", x.sheet(3, 1, 0), 0);
        Due.is(32, "25", x.sheet(0, 0, 25), BAD);
        Due.is(32, "sheet -1", x.sheet(-1, 0, 1), BAD);
        Due.is(32, "sheet 4", x.sheet(4, 0, 1), BAD);
        Due.is(32, "sort -2", x.sheet(0, -2, 1), BAD);
        Due.is(32, "sort 2", x.sheet(0, 2, 1), BAD);
        Due.is(32, "below 0", x.sheet(0, 0, -1), GhostTrain.SIZE);
        Due.is(32, "BAD ahead of SIZE", x.sheet(4, 0, -1), BAD);
        Due.is(32, "far below 0", x.sheet(0, 1, Integer.MIN_VALUE), GhostTrain.SIZE);
        Due.is(32, "the row stays when refused", place(x, 0, 23), 0);
        Due.is(32, "no place behind it", place(x, 0, 24), INDEX);
        x.mark(0, 0, 66);
        x.mark(0, 5, 77);
        Due.is(32, "again", x.sheet(0, 0, 6), 6);
        Due.is(32, "all 0, the first", place(x, 0, 0), 0);
        Due.is(32, "all 0", place(x, 0, 5), 0);
        Due.is(32, "MISSING, n any", x.sheet(0, -1, 25), 0);
        Due.is(32, "MISSING now", x.pour(0), NOTHING);
        Due.is(32, "MISSING, n below 0", x.sheet(3, -1, -9), 0);
        Due.is(32, "MISSING it is", x.reads(3), NOTHING);
    }

    private static void markShorts() {
        GhostTrain x = new GhostTrain();
        Due.is(33, "sheet -1", x.mark(-1, 0, 0), BAD);
        Due.is(33, "sheet 4", x.mark(4, 0, 0), BAD);
        Due.is(33, "MISSING", x.mark(0, -1, NONE), NOTHING);
        x.sheet(0, 0, 2);
        int[] marks = {32767, 32768, -32769, 65536, 65535, Integer.MIN_VALUE, 100000};
        int[] shorts = {32767, -32768, 32767, 0, -1, 0, -31072};
        for (int i = 0; i < marks.length; i++) {
            Due.is(33, "a short", x.mark(0, 1, marks[i]), 1);
            Due.is(33, "lowest 16 bits of " + marks[i], place(x, 0, 1), shorts[i]);
        }
        Due.is(33, "place -1", x.mark(0, -1, 0), INDEX);
        Due.is(33, "place 2", x.mark(0, 2, 0), INDEX);
        Due.is(33, "INDEX ahead of KIND", x.mark(0, 2, NONE), INDEX);
        Due.is(33, "NONE in a row of shorts", x.mark(0, 1, NONE), KIND);
        Due.is(33, "the place stays", place(x, 0, 1), -31072);
        Due.is(33, "the other place stays", place(x, 0, 0), 0);
    }

    private static void markFloats() {
        GhostTrain x = new GhostTrain();
        x.sheet(1, 1, 2);
        Due.is(33, "most", x.mark(1, 0, 99999), 1);
        Due.is(33, "most stays whole", place(x, 1, 0), 99999);
        Due.is(33, "least", x.mark(1, 0, -99999), 1);
        Due.is(33, "least stays whole", place(x, 1, 0), -99999);
        Due.is(33, "too much", x.mark(1, 0, 100000), BAD);
        Due.is(33, "too little", x.mark(1, 0, -100000), BAD);
        Due.is(33, "INDEX ahead of BAD", x.mark(1, 2, 100000), INDEX);
        Due.is(33, "place -1", x.mark(1, -1, 1), INDEX);
        Due.is(33, "NO NUMBER", x.mark(1, 0, NONE), 1);
        Due.is(33, "it is none", place(x, 1, 0), KIND);
        Due.is(33, "a number again", x.mark(1, 0, 40000), 1);
        Due.is(33, "it is one", place(x, 1, 0), 40000);
    }

    private static void pour() {
        GhostTrain x = new GhostTrain();
        Due.is(34, "sheet -1", x.pour(-1), BAD);
        Due.is(34, "sheet 4", x.pour(4), BAD);
        Due.is(34, "MISSING", x.pour(0), NOTHING);
        for (int part = 0; part < 12; part++) {
            x.lays(part, 0, 5);
        }
        x.sheet(0, 1, 5);
        int[] marks = {5, -10, 10, NONE, 0};
        for (int place = 0; place < 5; place++) {
            x.mark(0, place, marks[place]);
        }
        Due.is(34, "otherwise then", x.pour(0), 3);
        int[] rises = {5, -9, 9, 5, 0, 5, 5, 5, 5, 5, 5, 5};
        for (int part = 0; part < 12; part++) {
            Due.is(34, "RISE of " + part, x.part(part, 0), rises[part]);
        }
        Due.is(34, "none is otherwise then", x.pour(0), 0);
        x.sheet(1, 0, 24);
        Due.is(34, "more places than PARTS", x.pour(1), 11);
        x.sheet(1, 0, 0);
        Due.is(34, "no places", x.pour(1), 0);
    }

    private static void reads() {
        GhostTrain x = new GhostTrain();
        Due.is(35, "sheet -1", x.reads(-1), BAD);
        Due.is(35, "sheet 4", x.reads(4), BAD);
        Due.is(35, "MISSING", x.reads(0), NOTHING);
        x.car(0, 40, 1);
        x.car(0, 0, 1);
        x.sheet(0, 1, 3);
        Due.is(35, "the first", x.reads(0), 0);
        x.mark(0, 0, 40);
        Due.is(35, "a place that is no CAR, and 0", x.reads(0), 2);
        x.mark(0, 1, 1);
        Due.is(35, "the second", x.reads(0), 1);
        x.mark(0, 1, NONE);
        Due.is(35, "of numbers alone", x.reads(0), 2);
        x.mark(0, 2, NONE);
        Due.is(35, "there is none", x.reads(0), NONE);
        x.sheet(1, 0, 0);
        Due.is(35, "no places", x.reads(1), NONE);
        x.sheet(1, 0, 24);
        x.mark(1, 0, 40);
        Due.is(35, "more places than there may be CARS", x.reads(1), 2);
    }

    private static void row(GhostTrain x, int sheet, int first, int... due) {
        for (int i = 0; i < due.length; i++) {
            Due.is(36, "place " + (first + i) + " of " + sheet, place(x, sheet, first + i), due[i]);
        }
    }

    private static void copy() {
        GhostTrain x = new GhostTrain();
        x.sheet(0, 0, 5);
        x.sheet(1, 0, 3);
        for (int place = 0; place < 5; place++) {
            x.mark(0, place, 10 + place);
        }
        Due.is(36, "to another one", x.copy(0, 3, 1, 1, 2), 2);
        row(x, 1, 0, 0, 13, 14);
        Due.is(36, "on over themselves", x.copy(0, 0, 0, 1, 4), 4);
        row(x, 0, 0, 10, 10, 11, 12, 13);
        Due.is(36, "back over themselves", x.copy(0, 2, 0, 1, 3), 3);
        row(x, 0, 0, 10, 11, 12, 13, 13);
        Due.is(36, "none", x.copy(0, 5, 1, 3, 0), 0);
        x.sheet(2, 1, 2);
        x.mark(2, 0, NONE);
        Due.is(36, "NO NUMBER too", x.copy(2, 0, 2, 1, 1), 1);
        row(x, 2, 0, KIND, KIND);
    }

    private static void copyRefused() {
        GhostTrain x = new GhostTrain();
        x.sheet(0, 0, 5);
        x.sheet(1, 1, 5);
        x.sheet(2, 0, 2);
        Due.is(36, "from -1", x.copy(-1, 0, 0, 0, 1), BAD);
        Due.is(36, "from 4", x.copy(4, 0, 0, 0, 1), BAD);
        Due.is(36, "to -1", x.copy(0, 0, -1, 0, 1), BAD);
        Due.is(36, "to 4", x.copy(0, 0, 4, 0, 1), BAD);
        Due.is(36, "BAD ahead of NOTHING", x.copy(3, 0, 4, 0, 1), BAD);
        Due.is(36, "from a missing one", x.copy(3, 0, 0, 0, 1), NOTHING);
        Due.is(36, "to a missing one", x.copy(0, 0, 3, 0, 1), NOTHING);
        Due.is(36, "not of one sort", x.copy(0, 0, 1, 0, 1), KIND);
        Due.is(36, "KIND ahead of INDEX", x.copy(0, 9, 1, 0, 1), KIND);
        Due.is(36, "not of one sort, none", x.copy(1, 0, 0, 0, 0), KIND);
        Due.is(36, "place -1", x.copy(0, -1, 2, 0, 1), INDEX);
        Due.is(36, "at -1", x.copy(0, 0, 2, -1, 1), INDEX);
        Due.is(36, "many -1", x.copy(0, 1, 2, 1, -1), INDEX);
        Due.is(36, "beyond the one", x.copy(2, 1, 0, 0, 2), INDEX);
        Due.is(36, "beyond the other", x.copy(0, 0, 2, 1, 2), INDEX);
        Due.is(36, "none from beyond", x.copy(0, 6, 2, 0, 0), INDEX);
        Due.is(36, "none to beyond", x.copy(0, 0, 2, 3, 0), INDEX);
        int most = Integer.MAX_VALUE;
        Due.is(36, "sums that would wrap", x.copy(0, most, 2, most, most), INDEX);
        Due.is(36, "as many as that", x.copy(0, 1, 2, 1, most), INDEX);
    }

    private static void lay() {
        GhostTrain x = new GhostTrain();
        x.car(0, 0, 50);
        x.sheet(0, 0, 1);
        Due.is(37, "it held nothing", x.lay(0, 1, 0), 0);
        Due.is(37, "it held a CAR", x.lay(0, 2, 0), 1);
        Due.is(37, "it held a SHEET", x.lay(0, 3, -5), 2);
        Due.is(37, "it held a number", x.lay(0, 0, 99), 3);
        Due.is(37, "it held nothing again", x.lay(0, 0, -1), 0);
        Due.is(37, "slot -1", x.lay(-1, 0, 0), BAD);
        Due.is(37, "slot 5", x.lay(5, 0, 0), BAD);
        Due.is(37, "thing -1", x.lay(4, -1, 0), BAD);
        Due.is(37, "thing 4", x.lay(4, 4, 0), BAD);
        Due.is(37, "car -1", x.lay(4, 1, -1), BAD);
        Due.is(37, "car 1", x.lay(4, 1, 1), BAD);
        Due.is(37, "sheet -1", x.lay(4, 2, -1), BAD);
        Due.is(37, "sheet 4", x.lay(4, 2, 4), BAD);
        Due.is(37, "a missing sheet", x.lay(4, 2, 1), NOTHING);
        Due.is(37, "slot 5, a missing sheet", x.lay(5, 2, 1), BAD);
        Due.is(37, "slot 4 holds nothing still", x.lay(4, 3, Integer.MIN_VALUE), 0);
    }

    private static void ask() {
        GhostTrain x = new GhostTrain();
        for (int kind = 0; kind < 6; kind++) {
            x.car(kind, 40 * kind, 30);
        }
        String[] kindsAbove = {"0", "01", "02", "013", "024", "05"};
        int[] worth = {30, 38, 69, 76, 66, 4};
        for (int car = 0; car < 6; car++) {
            x.lay(2, 1, car);
            for (int kind = 0; kind < 6; kind++) {
                boolean under = kindsAbove[car].indexOf('0' + kind) >= 0;
                Due.is(38, "CAR " + car + " for kind " + kind, x.ask(2, kind), under ? worth[car] : KIND);
            }
        }
        x.lay(2, 1, 1);
        x.set(1, 2, 99);
        x.turns(1, 5);
        Due.is(38, "as it was then, for good", x.ask(2, 1), 38);
        Due.is(38, "not as it is now", x.ask(2, 5), KIND);
        Due.is(38, "slot -1", x.ask(-1, 0), BAD);
        Due.is(38, "slot 5", x.ask(5, 0), BAD);
        Due.is(38, "kind -1", x.ask(2, -1), BAD);
        Due.is(38, "kind 6", x.ask(3, 6), BAD);
        Due.is(38, "nothing", x.ask(3, 0), NOTHING);
        x.lay(2, 3, 0);
        Due.is(38, "a number", x.ask(2, 0), KIND);
        x.sheet(0, 0, 1);
        x.lay(2, 2, 0);
        Due.is(38, "a sheet", x.ask(2, 0), KIND);
    }

    private static void item() {
        GhostTrain x = new GhostTrain();
        x.car(0, 0, 50);
        Due.is(39, "slot -1", x.item(-1, 0), BAD);
        Due.is(39, "slot 5", x.item(5, 0), BAD);
        Due.is(39, "nothing", x.item(0, -1), NOTHING);
        x.lay(0, 1, 0);
        Due.is(39, "a car", x.item(0, -1), KIND);
        x.lay(0, 3, 0);
        Due.is(39, "a number", x.item(0, 0), KIND);
        x.sheet(0, 1, 2);
        x.mark(0, 0, -123);
        x.mark(0, 1, NONE);
        x.lay(0, 2, 0);
        x.lay(1, 2, 0);
        x.sheet(0, 0, 24);
        Due.is(39, "as it was then", x.item(0, 0), -123);
        Due.is(39, "NO NUMBER", x.item(0, 1), KIND);
        Due.is(39, "place -1", x.item(0, -1), INDEX);
        Due.is(39, "place 2", x.item(0, 2), INDEX);
        x.mark(0, 0, 9);
        x.lay(0, 2, 0);
        Due.is(39, "a row of its own", x.item(1, 0), -123);
        Due.is(39, "another row", x.item(0, 0), 9);
        x.sheet(0, -1, 0);
        Due.is(39, "it stays while the SHEET is MISSING", x.item(0, 23), 0);
    }

    private static void rest() {
        GhostTrain x = new GhostTrain();
        x.car(0, 0, 50);
        x.sheet(0, 0, 1);
        Due.is(40, "slot -1", x.rest(-1, 1), BAD);
        Due.is(40, "slot 5", x.rest(5, 1), BAD);
        Due.is(40, "nothing", x.rest(4, 0), NOTHING);
        x.lay(4, 1, 0);
        Due.is(40, "a car", x.rest(4, 0), KIND);
        x.lay(4, 2, 0);
        Due.is(40, "a sheet", x.rest(4, 0), KIND);
        x.lay(4, 3, 17);
        Due.is(40, "17 by 5", x.rest(4, 5), 2);
        Due.is(40, "17 by -5", x.rest(4, -5), 2);
        Due.is(40, "by 0", x.rest(4, 0), GhostTrain.NO);
        x.lay(4, 3, -17);
        Due.is(40, "-17 by 5", x.rest(4, 5), -2);
        x.lay(4, 3, Integer.MIN_VALUE);
        Due.is(40, "the least by -1", x.rest(4, -1), 0);
        Due.is(40, "the least by 10", x.rest(4, 10), -8);
    }
}
