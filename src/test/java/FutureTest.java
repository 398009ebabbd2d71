/** Promises 16 to 24: what will be. */
final class FutureTest {
    private static final int BAD = GhostTrain.BAD;
    private static final int NONE = GhostTrain.NONE;

    public static void main(String[] args) {
        behind();
        nothingChanges();
        stands();
        brake();
        brakeOfSeveral();
        moved();
        off();
        offOfSeveral();
        kind();
        kiss();
        gaps();
        weighed();
        weighedByNumbersAlone();
        Due.end();
    }

    /** Five cars that stand, miss and scream within a few seconds. */
    private static GhostTrain crowd() {
        GhostTrain x = new GhostTrain();
        x.car(0, 0, 40);
        x.car(4, 30, 20);
        x.car(3, 45, 80);
        x.car(1, 200, 99);
        x.car(2, 228, 5);
        x.lays(1, 2, 9);
        x.lays(3, 2, 12);
        x.lays(11, 2, 30);
        x.lays(2, 0, 4);
        x.lays(4, 0, -6);
        x.lays(5, 1, 6);
        return x;
    }

    private static void behind() {
        GhostTrain x = crowd();
        GhostTrain real = crowd();
        for (int n = 0; n < 40; n++) {
            for (int what = 0; what < 4; what++) {
                Due.is(16, "behind(" + n + ", " + what + ")", x.behind(n, what), real.ride(what));
            }
            for (int car = 0; car < 5; car++) {
                Due.is(16, "behind(" + n + ", " + (4 + car) + ")", x.behind(n, 4 + car), real.told(car, 1));
            }
            real.seconds(1);
        }
        real.seconds(260);
        Due.is(16, "behind(300, 0)", x.behind(300, 0), real.ride(0));
        Due.is(16, "-1", x.behind(-1, 0), BAD);
        Due.is(16, "301", x.behind(301, 0), BAD);
        Due.is(16, "what -1", x.behind(1, -1), BAD);
        Due.is(16, "what 9 of five cars", x.behind(1, 9), BAD);
        Due.is(16, "what of no car", new GhostTrain().behind(1, 4), BAD);
        Due.is(16, "all of none", new GhostTrain().behind(300, 0), 0);
    }

    private static void nothingChanges() {
        GhostTrain x = crowd();
        x.seconds(13);
        x.sheet(0, 0, 24);
        String before = Due.all(x);
        x.behind(300, 0);
        x.stands();
        x.brake(5, 100, 0);
        x.moved(1, 3, 100);
        x.off(100, 0);
        x.kind(0, 100, 0);
        x.kiss(4, 100);
        x.gaps(60);
        x.weighed(0, 0, 0);
        Due.holds("what will be changes what is", before.equals(Due.all(x)));
    }

    private static void stands() {
        GhostTrain x = new GhostTrain();
        Due.is(17, "no cars", x.stands(), NONE);
        x.car(0, 0, 1);
        Due.is(17, "one car", x.stands(), NONE);
        x.car(4, 22, 50);
        Due.is(17, "held to less, it never stands", x.stands(), NONE);
        x.set(1, 1, 11);
        Due.is(17, "a foot of room is enough", x.stands(), NONE);
        x.set(1, 1, 10);
        Due.is(17, "no room", x.stands(), 1);
        x.set(1, 1, 0);
        Due.is(17, "on the same foot", x.stands(), 1);
        x.seconds(2);
        Due.is(17, "STOOD by now", x.ride(2), 2);
        Due.is(17, "again", x.stands(), 1);
        x.set(1, 1, 120);
        Due.is(17, "what stood by now is not counted", x.stands(), NONE);
    }

    private static void brake() {
        GhostTrain x = new GhostTrain();
        x.car(0, 15, 1);
        x.lays(1, 2, 60);
        x.lays(0, 1, 3);
        // It has 5 feet to go; by one second only BRAKES 0 and 1 let it enter.
        Due.is(18, "the least of several", x.brake(0, 1, 0), 0);
        Due.is(18, "its SCREAMS", x.brake(0, 1, 1), 2);
        x.lays(0, 0, -9);
        Due.is(18, "BRAKE is as it was", x.part(0, 1), 3);
        Due.is(18, "part -1", x.brake(-1, 1, 0), BAD);
        Due.is(18, "part 12", x.brake(12, 1, 0), BAD);
        Due.is(18, "n 0", x.brake(0, 0, 0), BAD);
        Due.is(18, "n 101", x.brake(0, 101, 0), BAD);
        Due.is(18, "what -1", x.brake(0, 1, -1), BAD);
        Due.is(18, "what 2", x.brake(0, 1, 2), BAD);
        Due.is(18, "n 100", x.brake(0, 100, 1), bestBrake(x, 0, 100));
    }

    private static int bestBrake(GhostTrain x, int part, int n) {
        int was = x.part(part, 1);
        int most = Integer.MIN_VALUE;
        for (int brake = 0; brake < 10; brake++) {
            x.lays(part, 1, brake);
            most = Math.max(most, x.behind(n, 0) - x.behind(n, 2));
        }
        x.lays(part, 1, was);
        return most;
    }

    private static void brakeOfSeveral() {
        GhostTrain x = new GhostTrain();
        x.gap(10);
        x.car(0, 0, 1);
        x.car(0, 12, 1);
        x.lays(1, 1, 9);
        // Car 0 has 2 feet of room, car 1 goes on by what the BRAKE of part 0 leaves it; a scream is lost by haste.
        for (int part = 0; part < 12; part++) {
            int best = x.brake(part, 9, 0);
            int was = x.part(part, 1);
            int gives = x.brake(part, 9, 1);
            x.lays(part, 1, best);
            Due.is(18, "what the best gives", x.behind(9, 0) - x.behind(9, 2), gives);
            for (int brake = 0; brake < 10; brake++) {
                x.lays(part, 1, brake);
                int other = x.behind(9, 0) - x.behind(9, 2);
                Due.holds("BRAKE " + brake + " is better", brake < best ? other < gives : other <= gives);
            }
            x.lays(part, 1, was);
        }
        GhostTrain late = new GhostTrain();
        late.gap(1);
        late.car(0, 0, 99);
        late.car(0, 19, 99);
        late.lays(1, 2, 2);
        late.seconds(1);
        late.set(0, 1, 18);
        // SET is 2: who comes by the first second misses, by the second one it screams; only BRAKE 9 is as slow.
        Due.is(18, "9 is the last", late.brake(0, 2, 0), 9);
        Due.is(18, "its SCREAMS", late.brake(0, 2, 1), 4);
        GhostTrain y = new GhostTrain();
        y.car(5, 0, 1);
        y.car(5, 0, 1);
        Due.is(18, "SCREAMS less STOOD may be below 0", y.brake(0, 5, 1), -2);
    }

    private static void moved() {
        GhostTrain x = new GhostTrain();
        x.car(0, 15, 1);
        x.lays(1, 2, 60);
        Due.is(19, "out of the way", x.moved(1, 9, 3), -2);
        Due.is(19, "it counts both ways", x.moved(9, 1, 3), -2);
        Due.is(19, "into the way", x.moved(1, 9, 31), 0);
        Due.is(19, "neither has one", x.moved(7, 8, 100), 0);
        x.seconds(1);
        x.lays(2, 2, 1);
        // SET of part 1 is 60 now; part 2 will take it over, so that its own scream is lost.
        Due.is(19, "SET changes too", x.moved(1, 2, 4), -2);
        Due.is(19, "SCARES are as they were", 100 * x.part(1, 2) + x.part(2, 2), 6001);
        Due.is(19, "SETS are as they were", 100 * x.part(1, 3) + x.part(2, 3), 6000);
        Due.is(19, "one and the same", x.moved(1, 1, 1), BAD);
        Due.is(19, "part -1", x.moved(-1, 1, 1), BAD);
        Due.is(19, "part 12", x.moved(12, 1, 1), BAD);
        Due.is(19, "other -1", x.moved(1, -1, 1), BAD);
        Due.is(19, "other 12", x.moved(1, 12, 1), BAD);
        Due.is(19, "n 0", x.moved(1, 2, 0), BAD);
        Due.is(19, "n 101", x.moved(1, 2, 101), BAD);
        Due.is(19, "n 100", x.moved(1, 2, 100) == BAD ? 1 : 0, 0);
        GhostTrain y = new GhostTrain();
        y.car(4, 100, 1);
        y.lays(0, 2, 5);
        Due.is(19, "more by it", y.moved(0, 6, 20), 4);
    }

    private static void off() {
        GhostTrain x = new GhostTrain();
        Due.is(20, "no cars", x.off(1, 0), NONE);
        Due.is(20, "no cars, SCREAMS", x.off(100, 1), NONE);
        Due.is(20, "BAD ahead of NONE", x.off(0, 0), BAD);
        Due.is(20, "n 101", x.off(101, 0), BAD);
        Due.is(20, "what -1", x.off(1, -1), BAD);
        Due.is(20, "what 2", x.off(1, 2), BAD);
        x.car(4, 19, 1);
        Due.is(20, "one car", x.off(1, 0), 0);
        Due.is(20, "none is left to scream", x.off(1, 1), 0);
        x.car(0, 59, 1);
        x.car(1, 22, 1);
        x.lays(1, 2, 60);
        x.lays(3, 2, 60);
        // Car 2 is too near ahead of car 0, which screams loudest: without car 2 there are 4 and 2.
        Due.is(20, "who is in the way", x.off(1, 0), 2);
        Due.is(20, "SCREAMS of all others", x.off(1, 1), 6);
        Due.is(20, "all are there", x.count(0), 3);
        GhostTrain y = new GhostTrain();
        y.car(0, 19, 1);
        y.car(4, 100, 1);
        y.lays(1, 2, 9);
        y.seconds(1);
        Due.is(20, "SCREAMS that were count, without its own", y.off(1, 0), 1);
        Due.is(20, "these", y.off(1, 1), 2);
        GhostTrain z = new GhostTrain();
        z.car(4, 100, 1);
        z.car(0, 19, 1);
        z.lays(1, 2, 9);
        z.seconds(1);
        Due.is(20, "the one that did not scream", z.off(1, 0), 0);
        Due.is(20, "SCREAMS of the other, once", z.off(1, 1), 2);
    }

    private static void offOfSeveral() {
        GhostTrain x = crowd();
        Due.is(20, "the least of several", carsFarApart(2).off(5, 0), 0);
        int most = x.off(100, 1);
        int best = x.off(100, 0);
        for (int gone = 0; gone < 5; gone++) {
            int screams = crowdWithout(gone).behind(100, 0);
            Due.holds("without car " + gone, gone < best ? screams < most : gone == best ? screams == most : screams <= most);
        }
    }

    private static GhostTrain carsFarApart(int cars) {
        GhostTrain x = new GhostTrain();
        for (int car = 0; car < cars; car++) {
            x.car(0, 50 * car, 1);
        }
        return x;
    }

    private static GhostTrain crowdWithout(int gone) {
        GhostTrain from = crowd();
        GhostTrain x = new GhostTrain();
        for (int car = 0; car < 5; car++) {
            if (car != gone) {
                x.car(from.told(car, 0), from.told(car, 1), from.told(car, 2));
            }
        }
        for (int part = 0; part < 12; part++) {
            for (int what = 0; what < 3; what++) {
                x.lays(part, what, from.part(part, what));
            }
        }
        return x;
    }

    private static void kind() {
        GhostTrain x = new GhostTrain();
        x.car(5, 19, 1);
        x.lays(1, 2, 60);
        Due.is(21, "the loudest that comes so far", x.kind(0, 1, 0), 4);
        Due.is(21, "its SCREAMS", x.kind(0, 1, 1), 4);
        x.set(0, 1, 15);
        Due.is(21, "only those that gain 5 get there", x.kind(0, 1, 0), 0);
        Due.is(21, "their SCREAMS", x.kind(0, 1, 1), 2);
        x.set(0, 1, 0);
        Due.is(21, "the least of several", x.kind(0, 1, 0), 0);
        Due.is(21, "no SCREAMS", x.kind(0, 1, 1), 0);
        Due.is(21, "its KIND is as it was", x.told(0, 0), 5);
        Due.is(21, "car -1", x.kind(-1, 1, 0), BAD);
        Due.is(21, "car 1", x.kind(1, 1, 0), BAD);
        Due.is(21, "n 0", x.kind(0, 0, 0), BAD);
        Due.is(21, "n 101", x.kind(0, 101, 0), BAD);
        Due.is(21, "what -1", x.kind(0, 1, -1), BAD);
        Due.is(21, "what 2", x.kind(0, 1, 2), BAD);
        GhostTrain y = crowd();
        int most = y.kind(2, 100, 1);
        int best = y.kind(2, 100, 0);
        for (int kind = 0; kind < 6; kind++) {
            y.turns(2, kind);
            int screams = y.behind(100, 0);
            Due.holds("as kind " + kind, kind < best ? screams < most : kind == best ? screams == most : screams <= most);
        }
    }

    private static void kiss() {
        GhostTrain x = new GhostTrain();
        x.car(0, 15, 1);
        x.lays(1, 2, 60);
        Due.is(22, "a scream is lost by it", x.kiss(0, 1), 2);
        Due.is(22, "late, not lost", x.kiss(0, 5), 0);
        Due.is(22, "another part", x.kiss(1, 1), 0);
        Due.is(22, "BRAKE is as it was", x.part(0, 1), 0);
        x.lays(0, 1, 9);
        Due.is(22, "it is 9", x.kiss(0, 1), 0);
        Due.is(22, "part -1", x.kiss(-1, 1), BAD);
        Due.is(22, "part 12", x.kiss(12, 1), BAD);
        Due.is(22, "n 0", x.kiss(0, 0), BAD);
        Due.is(22, "n 101", x.kiss(0, 101), BAD);
        Due.is(22, "n 100", x.kiss(0, 100) == BAD ? 1 : 0, 0);
        GhostTrain y = new GhostTrain();
        y.car(2, 19, 1);
        y.car(0, 38, 1);
        y.car(5, 43, 1);
        y.lays(2, 2, 5);
        y.gap(1);
        y.set(2, 1, 100);
        int asItIs = y.behind(20, 0);
        int kiss = y.kiss(1, 20);
        y.lays(1, 1, 9);
        Due.is(22, "less as if BRAKE were 9", kiss, asItIs - y.behind(20, 0));
    }

    private static void gaps() {
        GhostTrain x = new GhostTrain();
        Due.is(23, "no cars", x.gaps(60), 60);
        Due.is(23, "n 0", x.gaps(0), BAD);
        Due.is(23, "n 61", x.gaps(61), BAD);
        x.car(5, 0, 1);
        x.car(5, 30, 1);
        // The feet between them stay 30 at most; behind a second the last one has 30, 37 while the other moves first.
        Due.is(23, "less than the feet ahead", x.gaps(1), 29);
        Due.is(23, "they stay so far", x.gaps(60), 29);
        Due.is(23, "GAP is as it was", x.count(2), 10);
        x.set(1, 1, 0);
        Due.is(23, "with none", x.gaps(1), NONE);
        x.seconds(3);
        x.set(1, 1, 100);
        Due.is(23, "STOOD is as now, not 0", x.gaps(5), 60);
        x.set(1, 1, x.told(0, 1) + 2);
        Due.is(23, "the least", x.gaps(5), 1);
    }

    private static void weighed() {
        GhostTrain x = new GhostTrain();
        x.car(0, 10, 50);
        x.sheet(0, 0, 4);
        int[] places = {10, 19, 28, 37};
        for (int place = 0; place < 4; place++) {
            x.mark(0, place, places[place]);
        }
        // Nine feet a second: WEIGHT 60 .. 79, of those told 61 is the first.
        Due.is(24, "WEIGHT", x.weighed(0, 0, 0), 61);
        Due.is(24, "no differences", x.weighed(0, 0, 1), 0);
        x.mark(0, 0, 13);
        x.mark(0, 2, 26);
        Due.is(24, "WEIGHT again", x.weighed(0, 0, 0), 61);
        Due.is(24, "differences, signs left out", x.weighed(0, 0, 1), 5);
        Due.is(24, "its WEIGHT is as it was", x.told(0, 2), 50);
        Due.is(24, "sheet -1", x.weighed(-1, 0, 0), BAD);
        Due.is(24, "sheet 4", x.weighed(4, 0, 0), BAD);
        Due.is(24, "car -1", x.weighed(0, -1, 0), BAD);
        Due.is(24, "car 1", x.weighed(0, 1, 0), BAD);
        Due.is(24, "what -1", x.weighed(0, 0, -1), BAD);
        Due.is(24, "what 2", x.weighed(0, 0, 2), BAD);
        Due.is(24, "a sheet that is missing", x.weighed(1, 0, 0), GhostTrain.NOTHING);
        Due.is(24, "BAD ahead of NOTHING", x.weighed(1, 1, 0), BAD);
        x.sheet(1, 0, 0);
        Due.is(24, "no places: the least", x.weighed(1, 0, 0), 1);
        Due.is(24, "no places: no differences", x.weighed(1, 0, 1), 0);
        Due.text(x, "pace w/9");
        x.sheet(2, 0, 2);
        x.mark(2, 0, 10);
        x.mark(2, 1, 20);
        Due.is(24, "96 is the last", x.weighed(2, 0, 0), 91);
        Due.text(x, "pace w-76");
        x.mark(2, 1, 30);
        Due.is(24, "up to 96", x.weighed(2, 0, 0), 96);
    }

    private static void weighedByNumbersAlone() {
        GhostTrain x = new GhostTrain();
        x.car(0, 230, 50);
        x.car(4, 100, 50);
        x.sheet(3, 1, 4);
        x.mark(3, 0, GhostTrain.NONE);
        x.mark(3, 1, GhostTrain.NONE);
        x.mark(3, 2, 4);
        x.mark(3, 3, -99999);
        // By 6 a second: 230, 236, 2, 8; by more both are farther off, together.
        Due.is(24, "k counts places that are no numbers", x.weighed(3, 0, 1), 2 + 8 + 99999);
        Due.is(24, "WEIGHT", x.weighed(3, 0, 0), 1);
    }
}
