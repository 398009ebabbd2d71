/** The bounds that promises 1 to 12 name: cars, parts. */
final class CarBoundsTest extends Bounds {
    public static void main(String[] args) throws Exception {
        holdAll(CarBoundsTest.class);
    }

    @Says("As told; no CARS.")
    static void promise1NoCars() {
        is("count(0)", new GhostTrain().count(0), 0);
        refuses(NEW, "told(0, 0)", BAD, x -> x.told(0, 0));
        is("the first car", new GhostTrain().car(0, 0, 1), 0);
    }

    @Says("One more CAR: its number.")
    static void promise2Number() {
        GhostTrain x = new GhostTrain();
        for (int car = 0; car < 8; car++) {
            is("car(6, 0, 1)", x.car(6, 0, 1), BAD);
            is("car " + car, x.car(car % 6, car, 1 + car), car);
            is("count(0)", x.count(0), car + 1);
        }
        for (int car = 0; car < 8; car++) {
            are("told", new int[] {x.told(car, 0), x.told(car, 1), x.told(car, 2)}, car % 6, car, 1 + car);
        }
    }

    @Says("`int car(int kind, int foot, int weight)`: One more CAR: its number. BAD; FULL.")
    static void promise2Bad() {
        range(BUSY, "kind of car", 0, 5, BAD, (x, v) -> x.car(v, 50, 50));
        range(BUSY, "foot of car", 0, 239, BAD, (x, v) -> x.car(0, v, 50));
        range(BUSY, "weight of car", 1, 99, BAD, (x, v) -> x.car(0, 50, v));
        for (int kind = 0; kind < 6; kind++) {
            GhostTrain x = busy();
            x.car(kind, 239, 99);
            are("told of kind " + kind, new int[] {x.told(3, 0), x.told(3, 1), x.told(3, 2)}, kind, 239, 99);
        }
    }

    @Says("BAD; FULL.")
    static void promise2Full() {
        GhostTrain x = new GhostTrain();
        for (int car = 0; car < 7; car++) {
            x.car(0, 0, 1);
        }
        is("the eighth", x.car(0, 0, 1), 7);
        is("the ninth", x.car(0, 0, 1), FULL);
        is("cars", x.count(0), 8);
        refuses(CRAMMED, "car(0, 0, 1)", FULL, y -> y.car(0, 0, 1));
        refuses(CRAMMED, "car(6, 0, 1), BAD goes first", BAD, y -> y.car(6, 0, 1));
        refuses(CRAMMED, "car(0, 240, 1), BAD goes first", BAD, y -> y.car(0, 240, 1));
        refuses(CRAMMED, "car(0, 0, 100), BAD goes first", BAD, y -> y.car(0, 0, 100));
    }

    @Says("Of a CAR: what 0 KIND, 1 FOOT, 2 WEIGHT, 3 SCREAMS, 4 MISSED, 5 STOOD, 6 ROUNDS, 7 PACE where it is, 8 ROOM, "
            + "9 LOUD, 10 WORTH. BAD.")
    static void promise3Bad() {
        range(BUSY, "car of told", 0, 2, BAD, (x, v) -> x.told(v, 0));
        range(CRAMMED, "car of told", 0, 7, BAD, (x, v) -> x.told(v, 0));
        range(BUSY, "what of told", 0, 10, BAD, (x, v) -> x.told(0, v));
    }

    @Says("Of a CAR: what 0 KIND, 1 FOOT, 2 WEIGHT, 3 SCREAMS, 4 MISSED, 5 STOOD, 6 ROUNDS, 7 PACE where it is, 8 ROOM, "
            + "9 LOUD, 10 WORTH.")
    static void promise3What() {
        GhostTrain x = new GhostTrain();
        x.car(4, 239, 50);
        x.car(0, 120, 1);
        x.lays(0, 2, 2);
        x.seconds(1);
        x.set(0, 1, 239);
        x.seconds(1);
        x.set(0, 1, 239);
        x.set(1, 1, 239);
        x.seconds(1);
        x.set(1, 1, 139);
        x.set(0, 1, 119);
        x.lays(5, 0, -4);
        // It came into part 0 twice, once while it was not set, and stood once, the other car on its foot.
        int[] due = {4, 119, 50, 4, 1, 1, 2, 6, 10, 4, 46};
        for (int what = 0; what <= 10; what++) {
            is("told(0, " + what + ")", x.told(0, what), due[what]);
        }
    }

    @Says("PACE of a CAR in a PART. BAD.")
    static void promise4Bad() {
        range(BUSY, "car of pace", 0, 2, BAD, (x, v) -> x.pace(v, 0));
        range(BUSY, "part of pace", 0, 11, BAD, (x, v) -> x.pace(0, v));
        refuses(NEW, "pace(0, 0)", BAD, x -> x.pace(0, 0));
    }

    @Says("A CAR as one of a KIND: WEIGHT. BAD: car, kind; KIND: it is not of that KIND, nor of one under it.")
    static void promise5Bad() {
        range(BUSY, "car of as", 0, 2, BAD, (x, v) -> x.as(v, 0));
        range(BUSY, "kind of as", 0, 5, BAD, (x, v) -> {
            x.turns(0, v);
            return x.as(0, v);
        });
        for (int kind : new int[] {LEAST_INT, -1, 6, MOST_INT}) {
            refuses(BUSY, "as(0, " + kind + ")", BAD, x -> x.as(0, kind));
            refuses(BUSY, "as(3, " + kind + ")", BAD, x -> x.as(3, kind));
        }
    }

    @Says("KIND: it is not of that KIND, nor of one under it.")
    static void promise5Kind() {
        boolean[][] isOne = {{true, false, false, false, false, false}, {true, true, false, false, false, false},
            {true, false, true, false, false, false}, {true, true, false, true, false, false},
            {true, false, true, false, true, false}, {true, false, false, false, false, true}};
        for (int kind = 0; kind < 6; kind++) {
            int of = kind;
            Made made = () -> {
                GhostTrain x = new GhostTrain();
                x.car(of, 0, 17);
                return x;
            };
            for (int as = 0; as < 6; as++) {
                int one = as;
                refuses(made, "as(0, " + as + ") of kind " + kind, isOne[kind][as] ? 17 : KIND, x -> x.as(0, one));
            }
        }
    }

    @Says("A CAR is of another KIND from now on: what it was. BAD.")
    static void promise6Bad() {
        range(BUSY, "car of turns", 0, 2, BAD, (x, v) -> x.turns(v, 2));
        range(BUSY, "kind of turns", 0, 5, BAD, (x, v) -> x.turns(1, v));
        GhostTrain x = busy();
        int was = 4;
        for (int kind : new int[] {5, 0, 3, 1, 2}) {
            is("turns(1, " + kind + ")", x.turns(1, kind), was);
            is("its kind", x.told(1, 0), kind);
            was = kind;
        }
    }

    @Says("FOOT, WEIGHT (what 1, 2) of a CAR becomes v: what it was. BAD.")
    static void promise7Bad() {
        range(BUSY, "car of set", 0, 2, BAD, (x, v) -> x.set(v, 1, 7));
        range(BUSY, "what of set", 1, 2, BAD, (x, v) -> x.set(0, v, 50));
        range(BUSY, "foot of set", 0, 239, BAD, (x, v) -> x.set(0, 1, v));
        range(BUSY, "weight of set", 1, 99, BAD, (x, v) -> x.set(0, 2, v));
    }

    @Says("FOOT, WEIGHT (what 1, 2) of a CAR becomes v: what it was.")
    static void promise7WhatItWas() {
        GhostTrain x = new GhostTrain();
        x.car(0, 5, 6);
        are("foot", new int[] {x.set(0, 1, 0), x.set(0, 1, 239), x.set(0, 1, 238), x.told(0, 1)}, 5, 0, 239, 238);
        are("weight", new int[] {x.set(0, 2, 1), x.set(0, 2, 99), x.set(0, 2, 98), x.told(0, 2)}, 6, 1, 99, 98);
    }

    @Says("Of a PART: what 0 RISE, 1 BRAKE, 2 SCARE, 3 SET. BAD.")
    static void promise8Bad() {
        range(BUSY, "part of part", 0, 11, BAD, (x, v) -> x.part(v, 0));
        range(BUSY, "what of part", 0, 3, BAD, (x, v) -> x.part(1, v));
        GhostTrain x = new GhostTrain();
        x.lays(11, 0, -9);
        x.lays(11, 1, 8);
        x.lays(11, 2, 7);
        x.car(5, 219, 1);
        x.seconds(2);
        are("part 11", new int[] {x.part(11, 0), x.part(11, 1), x.part(11, 2), x.part(11, 3)}, -9, 8, 7, 6);
    }

    @Says("RISE, BRAKE, SCARE (what 0 .. 2; SET becomes 0 with SCARE) of a PART becomes v: what it was. BAD.")
    static void promise9Bad() {
        range(BUSY, "part of lays", 0, 11, BAD, (x, v) -> x.lays(v, 0, 1));
        range(BUSY, "what of lays", 0, 2, BAD, (x, v) -> x.lays(1, v, 0));
        range(BUSY, "RISE of lays", -9, 9, BAD, (x, v) -> x.lays(1, 0, v));
        range(BUSY, "BRAKE of lays", 0, 9, BAD, (x, v) -> x.lays(1, 1, v));
        range(BUSY, "SCARE of lays", 0, 60, BAD, (x, v) -> x.lays(1, 2, v));
        GhostTrain x = new GhostTrain();
        are("RISE", new int[] {x.lays(0, 0, -9), x.lays(0, 0, 9), x.lays(0, 0, 8), x.part(0, 0)}, 0, -9, 9, 8);
        are("BRAKE", new int[] {x.lays(0, 1, 9), x.lays(0, 1, 0), x.lays(0, 1, 1), x.part(0, 1)}, 0, 9, 0, 1);
        are("SCARE", new int[] {x.lays(0, 2, 60), x.lays(0, 2, 0), x.lays(0, 2, 1), x.part(0, 2)}, 0, 60, 0, 1);
    }

    @Says("SET becomes 0 with SCARE")
    static void promise9Set() {
        for (int scare : new int[] {0, 1, 40, 60}) {
            GhostTrain x = new GhostTrain();
            x.car(0, 19, 1);
            x.car(0, 59, 1);
            x.lays(1, 2, 40);
            x.lays(3, 2, 30);
            x.seconds(2);
            x.lays(1, 0, 3);
            x.lays(1, 1, 3);
            is("SET behind RISE and BRAKE", x.part(1, 3), 39);
            is("SCARE as it was", x.lays(1, 2, scare), 40);
            is("SET", x.part(1, 3), 0);
            is("SET of another part", x.part(3, 3), 29);
        }
    }

    @Says("GAP becomes v: what it was. BAD.")
    static void promise10Bad() {
        range(BUSY, "gap", 1, 60, BAD, (x, v) -> x.gap(v));
        GhostTrain x = new GhostTrain();
        are("gap", new int[] {x.gap(1), x.gap(2), x.gap(60), x.gap(59), x.count(2)}, 10, 1, 2, 60, 59);
    }

    @Says("CARS are drawn, n (1 .. 8) of them, as many as there is room for (no draws for others): how many came. BAD.")
    static void promise11Bad() {
        range(BUSY, "deal", 1, 8, BAD, (x, v) -> x.deal(v));
        refuses(CRAMMED, "deal(0) where there is no room", BAD, x -> x.deal(0));
        refuses(CRAMMED, "deal(9) where there is no room", BAD, x -> x.deal(9));
        for (int n = 1; n <= 8; n++) {
            GhostTrain x = new GhostTrain();
            is("deal(" + n + ")", x.deal(n), n);
            is("cars behind deal(" + n + ")", x.count(0), n);
        }
    }

    @Says("as many as there is room for (no draws for others): how many came.")
    static void promise11Room() {
        for (int room = 0; room <= 3; room++) {
            for (int n = 1; n <= 4; n++) {
                GhostTrain x = new GhostTrain();
                for (int car = room; car < 8; car++) {
                    x.car(0, 0, 1);
                }
                int come = Math.min(n, room);
                is("deal(" + n + ") with room for " + room, x.deal(n), come);
                is("cars", x.count(0), 8 - room + come);
                is("z", x.count(7), zBehind(1, 3 * come));
            }
        }
    }

    private static int zBehind(int z, int draws) {
        long behind = z;
        for (int i = 0; i < draws; i++) {
            behind = (behind * 1103515245L + 12345L) % 4294967296L;
        }
        return (int) behind;
    }

    @Says("z becomes v: what it was.")
    static void promise12AnyInt() {
        GhostTrain x = new GhostTrain();
        int was = 1;
        for (int v : new int[] {0, -1, LEAST_INT, MOST_INT, BAD, NONE, 1}) {
            is("seed(" + v + ")", x.seed(v), was);
            is("z", x.count(7), v);
            was = v;
        }
    }
}
