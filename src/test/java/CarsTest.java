/** Promises 1 to 12: cars, parts. */
final class CarsTest {
    private static final int BAD = GhostTrain.BAD;

    public static void main(String[] args) {
        newObject();
        car();
        told();
        roomOfMany();
        paceByKinds();
        paceWithinItsBounds();
        as();
        turns();
        set();
        partAndLays();
        gap();
        deal();
        seed();
        Due.end();
    }

    private static void newObject() {
        GhostTrain x = new GhostTrain();
        int[] counts = {0, 0, 10, 0, 0, 0, 0, 1};
        for (int what = 0; what < counts.length; what++) {
            Due.is(1, "count(" + what + ")", x.count(what), counts[what]);
        }
        for (int part = 0; part < 12; part++) {
            for (int what = 0; what < 4; what++) {
                Due.is(1, "part(" + part + ", " + what + ")", x.part(part, what), 0);
            }
        }
        for (int what = 0; what < 6; what++) {
            Due.is(1, "ride(" + what + ")", x.ride(what), 0);
        }
        Due.is(1, "told of no car", x.told(0, 0), BAD);
        Due.is(1, "lamps", x.lamps(), 0);
        Due.is(1, "fee", x.fee(), 0);
        for (int key = 0; key < 3; key++) {
            Due.is(1, "why(" + key + ")", x.why(key), GhostTrain.NONE);
        }
        for (int sheet = 0; sheet < 4; sheet++) {
            Due.is(1, "a sheet is missing", x.pour(sheet), GhostTrain.NOTHING);
        }
        for (int slot = 0; slot < 5; slot++) {
            Due.is(1, "a slot holds nothing", x.rest(slot, 1), GhostTrain.NOTHING);
        }
        Due.is(1, "no image", x.back(), GhostTrain.NO);
    }

    private static void car() {
        GhostTrain x = new GhostTrain();
        Due.is(2, "kind -1", x.car(-1, 0, 1), BAD);
        Due.is(2, "kind 6", x.car(6, 0, 1), BAD);
        Due.is(2, "foot -1", x.car(0, -1, 1), BAD);
        Due.is(2, "foot 240", x.car(0, 240, 1), BAD);
        Due.is(2, "weight 0", x.car(0, 0, 0), BAD);
        Due.is(2, "weight 100", x.car(0, 0, 100), BAD);
        Due.is(2, "none came", x.count(0), 0);
        Due.is(2, "least of all", x.car(0, 0, 1), 0);
        Due.is(2, "most of all", x.car(5, 239, 99), 1);
        for (int car = 2; car < 8; car++) {
            Due.is(2, "one more", x.car(1, 10 * car, 50), car);
        }
        Due.is(2, "a ninth", x.car(0, 0, 1), GhostTrain.FULL);
        Due.is(2, "BAD ahead of FULL", x.car(0, 0, 0), BAD);
        Due.is(2, "foot and weight of car 1", 1000 * x.told(1, 1) + x.told(1, 2), 239099);
    }

    private static void told() {
        GhostTrain x = new GhostTrain();
        x.car(3, 25, 60);
        x.lays(1, 0, 2);
        int[] alone = {3, 25, 60, 0, 0, 0, 0, 6, 240, 1, 136};
        for (int what = 0; what < alone.length; what++) {
            Due.is(3, "told(0, " + what + ")", x.told(0, what), alone[what]);
        }
        Due.is(3, "what -1", x.told(0, -1), BAD);
        Due.is(3, "what 11", x.told(0, 11), BAD);
        Due.is(3, "car -1", x.told(-1, 0), BAD);
        Due.is(3, "car 1", x.told(1, 0), BAD);
        int[] loud = {2, 1, 3, 1, 4, 0};
        int[] worth = {60, 68, 39, 136, 36, 4};
        for (int kind = 0; kind < 6; kind++) {
            x.turns(0, kind);
            Due.is(3, "LOUD of kind " + kind, x.told(0, 9), loud[kind]);
            Due.is(3, "WORTH of kind " + kind, x.told(0, 10), worth[kind]);
        }
    }

    private static void roomOfMany() {
        GhostTrain x = new GhostTrain();
        x.car(0, 230, 1);
        x.car(0, 5, 1);
        Due.is(3, "ROOM round the ring", x.told(0, 8), 15 - 10);
        Due.is(3, "ROOM of the other", x.told(1, 8), 225 - 10);
        x.car(0, 5, 1);
        Due.is(3, "one with a greater number is on the same foot", x.told(1, 8), -10);
        Due.is(3, "one with a lesser number is there, another one fewer feet on", x.told(2, 8), 215);
        x.set(0, 1, 5);
        Due.is(3, "all of lesser numbers on the same foot", x.told(2, 8), 230);
        Due.is(3, "the first on the same foot", x.told(0, 8), -10);
        x.gap(60);
        Due.is(3, "ROOM by another GAP", x.told(2, 8), 180);
        Due.is(3, "STOOD is not changed by telling", x.told(0, 5), 0);
    }

    private static void paceByKinds() {
        GhostTrain x = new GhostTrain();
        for (int kind = 0; kind < 6; kind++) {
            x.car(kind, 0, 79);
        }
        x.lays(1, 0, -3);
        x.lays(2, 0, 3);
        x.lays(3, 1, 4);
        x.lays(4, 1, 5);
        int[][] due = {{9, 12, 6, 5, 4}, {9, 14, 6, 5, 4}, {4, 6, 3, 2, 2}, {9, 14, 5, 5, 4}, {4, 6, 3, 2, 1}, {7, 7, 7, 7, 7}};
        for (int kind = 0; kind < 6; kind++) {
            for (int part = 0; part < 5; part++) {
                Due.is(4, "kind " + kind + " in part " + part, x.pace(kind, part), due[kind][part]);
            }
        }
        x.lays(6, 0, 1);
        x.lays(7, 0, -1);
        Due.is(4, "HEAVY on a RISE of -1", x.pace(1, 7), 12);
        Due.is(4, "IRON on a RISE of 1", x.pace(3, 6), 7);
        Due.is(4, "car -1", x.pace(-1, 0), BAD);
        Due.is(4, "car 6", x.pace(6, 0), BAD);
        Due.is(4, "part -1", x.pace(0, -1), BAD);
        Due.is(4, "part 12", x.pace(0, 12), BAD);
        Due.is(4, "part 11", x.pace(0, 11), 9);
    }

    private static void paceWithinItsBounds() {
        GhostTrain x = new GhostTrain();
        for (int kind = 0; kind < 6; kind++) {
            x.car(kind, 0, 99);
        }
        x.lays(0, 0, -9);
        Due.is(4, "CAR down all the way", x.pace(0, 0), 19);
        Due.is(4, "HEAVY 20 at most", x.pace(1, 0), 20);
        Due.is(4, "LIGHT half, cut", x.pace(2, 0), 9);
        x.lays(0, 0, 9);
        x.lays(0, 1, 4);
        Due.is(4, "CAR 1 at least", x.pace(0, 0), 1);
        Due.is(4, "LIGHT 1 at least", x.pace(2, 0), 1);
        Due.is(4, "IRON 1 at least", x.pace(3, 0), 1);
        Due.text(x, "pace 9999");
        int[] most = {20, 20, 10, 19, 10, 7};
        Due.text(x, "pace 0-9999");
        int[] least = {1, 1, 1, 1, 1, 7};
        for (int kind = 0; kind < 6; kind++) {
            Due.is(4, "least of a TEXT, kind " + kind, x.pace(kind, 0), least[kind]);
        }
        Due.text(x, "pace 9999");
        for (int kind = 0; kind < 6; kind++) {
            Due.is(4, "most of a TEXT, kind " + kind, x.pace(kind, 0), most[kind]);
        }
        x.lays(1, 0, -1);
        Due.is(4, "HEAVY 20 at most by a TEXT", x.pace(1, 1), 20);
        Due.text(x, "pace 10+r-b");
        x.lays(5, 0, 4);
        x.lays(5, 1, 3);
        Due.is(4, "r and b are of that PART", x.pace(0, 5), 11);
        Due.text(x, "pace 0+7");
        Due.is(4, "a NUMBER 0 is not b", x.pace(0, 5), 7);
        Due.text(x, "pace w/10");
        Due.is(4, "w is of that CAR", x.pace(0, 5), 9);
    }

    private static void as() {
        GhostTrain x = new GhostTrain();
        for (int kind = 0; kind < 6; kind++) {
            x.car(kind, 40 * kind, 10 + kind);
        }
        String[] kindsAbove = {"0", "01", "02", "013", "024", "05"};
        for (int car = 0; car < 6; car++) {
            for (int kind = 0; kind < 6; kind++) {
                boolean under = kindsAbove[car].indexOf('0' + kind) >= 0;
                Due.is(5, "as(" + car + ", " + kind + ")", x.as(car, kind), under ? 10 + car : GhostTrain.KIND);
            }
        }
        Due.is(5, "kind -1", x.as(0, -1), BAD);
        Due.is(5, "kind 6", x.as(0, 6), BAD);
        Due.is(5, "car -1", x.as(-1, 0), BAD);
        Due.is(5, "car 6", x.as(6, 0), BAD);
    }

    private static void turns() {
        GhostTrain x = new GhostTrain();
        x.car(2, 0, 50);
        Due.is(6, "what it was", x.turns(0, 4), 2);
        Due.is(6, "what it was then", x.turns(0, 4), 4);
        Due.is(6, "kind -1", x.turns(0, -1), BAD);
        Due.is(6, "kind 6", x.turns(0, 6), BAD);
        Due.is(6, "car 1", x.turns(1, 0), BAD);
        Due.is(6, "car -1", x.turns(-1, 0), BAD);
        Due.is(6, "its KIND", x.told(0, 0), 4);
        Due.is(6, "it is taken for the new one", x.as(0, 4), 50);
    }

    private static void set() {
        GhostTrain x = new GhostTrain();
        x.car(0, 7, 50);
        Due.is(7, "FOOT", x.set(0, 1, 239), 7);
        Due.is(7, "FOOT again", x.set(0, 1, 0), 239);
        Due.is(7, "WEIGHT", x.set(0, 2, 99), 50);
        Due.is(7, "WEIGHT again", x.set(0, 2, 1), 99);
        Due.is(7, "FOOT -1", x.set(0, 1, -1), BAD);
        Due.is(7, "FOOT 240", x.set(0, 1, 240), BAD);
        Due.is(7, "WEIGHT 0", x.set(0, 2, 0), BAD);
        Due.is(7, "WEIGHT 100", x.set(0, 2, 100), BAD);
        Due.is(7, "what 0", x.set(0, 0, 1), BAD);
        Due.is(7, "what 3", x.set(0, 3, 1), BAD);
        Due.is(7, "car 1", x.set(1, 1, 1), BAD);
        Due.is(7, "car -1", x.set(-1, 1, 1), BAD);
        Due.is(7, "FOOT as it became", x.told(0, 1), 0);
        Due.is(7, "WEIGHT as it became", x.told(0, 2), 1);
    }

    private static void partAndLays() {
        GhostTrain x = new GhostTrain();
        Due.is(9, "RISE", x.lays(0, 0, -9), 0);
        Due.is(9, "RISE again", x.lays(0, 0, 9), -9);
        Due.is(9, "BRAKE", x.lays(11, 1, 9), 0);
        Due.is(9, "BRAKE again", x.lays(11, 1, 0), 9);
        Due.is(9, "SCARE", x.lays(1, 2, 60), 0);
        Due.is(9, "RISE -10", x.lays(0, 0, -10), BAD);
        Due.is(9, "RISE 10", x.lays(0, 0, 10), BAD);
        Due.is(9, "BRAKE -1", x.lays(0, 1, -1), BAD);
        Due.is(9, "BRAKE 10", x.lays(0, 1, 10), BAD);
        Due.is(9, "SCARE -1", x.lays(0, 2, -1), BAD);
        Due.is(9, "SCARE 61", x.lays(0, 2, 61), BAD);
        Due.is(9, "what 3", x.lays(0, 3, 0), BAD);
        Due.is(9, "what -1", x.lays(0, -1, 0), BAD);
        Due.is(9, "part -1", x.lays(-1, 0, 0), BAD);
        Due.is(9, "part 12", x.lays(12, 0, 0), BAD);
        x.car(0, 19, 1);
        x.seconds(1);
        int[] due = {0, 0, 60, 60};
        for (int what = 0; what < 4; what++) {
            Due.is(8, "part(1, " + what + ")", x.part(1, what), due[what]);
        }
        Due.is(8, "RISE of part 0", x.part(0, 0), 9);
        Due.is(8, "part -1", x.part(-1, 0), BAD);
        Due.is(8, "part 12", x.part(12, 0), BAD);
        Due.is(8, "what -1", x.part(0, -1), BAD);
        Due.is(8, "what 4", x.part(0, 4), BAD);
        x.lays(1, 0, 1);
        x.lays(1, 1, 1);
        Due.is(9, "SET stays with RISE and BRAKE", x.part(1, 3), 60);
        Due.is(9, "SCARE as it was", x.lays(1, 2, 60), 60);
        Due.is(9, "SET is 0 with SCARE", x.part(1, 3), 0);
    }

    private static void gap() {
        GhostTrain x = new GhostTrain();
        Due.is(10, "at first", x.gap(1), 10);
        Due.is(10, "then", x.gap(60), 1);
        Due.is(10, "0", x.gap(0), BAD);
        Due.is(10, "61", x.gap(61), BAD);
        Due.is(10, "as it became", x.count(2), 60);
    }

    private static void deal() {
        GhostTrain x = new GhostTrain();
        Due.is(11, "0", x.deal(0), BAD);
        Due.is(11, "9", x.deal(9), BAD);
        x.car(0, 0, 1);
        x.seed(-77);
        Due.is(11, "three", x.deal(3), 3);
        int z = -77;
        int[] drawn = new int[9];
        for (int i = 0; i < 9; i++) {
            z = (int) (z * 1103515245L + 12345L);
            drawn[i] = (int) ((z & 0xffffffffL) >> 8);
        }
        for (int car = 1; car < 4; car++) {
            int first = 3 * (car - 1);
            Due.is(11, "KIND", x.told(car, 0), drawn[first] % 6);
            Due.is(11, "FOOT", x.told(car, 1), drawn[first + 1] % 240);
            Due.is(11, "WEIGHT", x.told(car, 2), 1 + drawn[first + 2] % 99);
        }
        Due.is(11, "z behind nine draws", x.count(7), z);
        Due.is(11, "as many as there is room for", x.deal(8), 4);
        int full = x.count(7);
        Due.is(11, "no room", x.deal(1), 0);
        Due.is(11, "no draws for others", x.count(7), full);
        Due.is(11, "all are there", x.count(0), 8);
        for (int what = 3; what < 7; what++) {
            Due.is(11, "a drawn car has none", x.told(7, what), 0);
        }
    }

    private static void seed() {
        GhostTrain x = new GhostTrain();
        Due.is(12, "at first", x.seed(Integer.MIN_VALUE), 1);
        Due.is(12, "then", x.seed(Integer.MAX_VALUE), Integer.MIN_VALUE);
        Due.is(12, "z", x.count(7), Integer.MAX_VALUE);
    }
}
