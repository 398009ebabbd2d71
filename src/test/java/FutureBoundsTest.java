/** The bounds that promises 16 to 24 name: what will be. */
final class FutureBoundsTest extends Bounds {
    /** A CAR that is about to enter part 1, where there is a SCARE; three SHEETS, the last one MISSING. */
    private static final Made ONE = () -> {
        GhostTrain x = new GhostTrain();
        x.car(0, 15, 1);
        x.lays(1, 2, 60);
        x.sheet(0, 0, 2);
        x.sheet(1, 1, 2);
        x.sheet(2, 0, 0);
        return x;
    };

    public static void main(String[] args) throws Exception {
        holdAll(FutureBoundsTest.class);
    }

    @Says("BEHIND n (0 .. 300) SECONDS: what 0 SCREAMS, 1 MISSED, 2 STOOD, 3 ROUNDS; 4 and k: FOOT of CAR k. BAD.")
    static void promise16Bad() {
        range(BUSY, "n of behind", 0, 300, BAD, (x, v) -> x.behind(v, 0));
        range(BUSY, "n of behind for a car", 0, 300, BAD, (x, v) -> x.behind(v, 4));
        range(BUSY, "what of behind, three cars", 0, 6, BAD, (x, v) -> x.behind(1, v));
        range(CRAMMED, "what of behind, eight cars", 0, 11, BAD, (x, v) -> x.behind(1, v));
        range(NEW, "what of behind, no cars", 0, 3, BAD, (x, v) -> x.behind(1, v));
        int[][] feet = {{0, 0}, {1, 7}, {299, 299 * 7 % 240}, {300, 300 * 7 % 240}};
        for (int[] due : feet) {
            GhostTrain x = new GhostTrain();
            x.car(5, 0, 1);
            is("behind(" + due[0] + ", 4)", x.behind(due[0], 4), due[1]);
            is("behind(" + due[0] + ", 3)", x.behind(due[0], 3), due[0] * 7 / 240);
        }
    }

    @Says("BEHIND n (0 .. 300) SECONDS: what 0 SCREAMS, 1 MISSED, 2 STOOD, 3 ROUNDS; 4 and k: FOOT of CAR k.")
    static void promise16What() {
        GhostTrain x = new GhostTrain();
        x.car(4, 239, 1);
        x.car(0, 234, 1);
        x.car(1, 234, 1);
        x.car(0, 80, 1);
        x.car(0, 80, 1);
        x.car(0, 80, 1);
        x.gap(1);
        x.lays(0, 2, 60);
        int[] now = {0, 0, 0, 0, 239, 234, 234, 80, 80, 80};
        // BRIDAL goes by 3; CAR has 0 and HEAVY 234 + 8 less 1 feet ahead, of the three on foot 80 the last goes.
        int[] then = {4, 1, 3, 2, 2, 234, 0, 80, 80, 86};
        for (int what = 0; what < 10; what++) {
            is("behind(0, " + what + ")", x.behind(0, what), now[what]);
            is("behind(1, " + what + ")", x.behind(1, what), then[what]);
        }
    }

    @Says("STANDS: behind how many SECONDS (1 .. 300) STOOD of all is more than now first.")
    static void promise17AtOnceOrNever() {
        int[] roomAndDue = {-10, 1, -1, 1, 0, 1, 1, NONE, 2, NONE};
        for (int i = 0; i < roomAndDue.length; i += 2) {
            GhostTrain x = new GhostTrain();
            x.car(0, 100, 1);
            x.car(0, 110 + roomAndDue[i], 1);
            is("stands() with ROOM " + roomAndDue[i], x.stands(), roomAndDue[i + 1]);
        }
    }

    @Says("NONE: not by then.")
    static void promise17None() {
        refuses(NEW, "stands() without cars", NONE, x -> x.stands());
        refuses(ONE, "stands() of one car", NONE, x -> x.stands());
        GhostTrain x = new GhostTrain();
        x.car(0, 100, 1);
        x.car(0, 100, 1);
        x.seconds(2);
        is("STOOD by now", x.ride(2), 2);
        x.set(1, 1, 100);
        is("stands() again", x.stands(), 1);
        x.set(1, 1, 0);
        is("stands() with ROOM again", x.stands(), NONE);
    }

    @Says("BEST BRAKE of a PART, for n (1 .. 100): what 0 the BRAKE, 1 SCREAMS less STOOD. BAD.")
    static void promise18Bad() {
        range(BUSY, "part of brake", 0, 11, BAD, (x, v) -> x.brake(v, 1, 0));
        range(BUSY, "n of brake", 1, 100, BAD, (x, v) -> x.brake(0, v, 0));
        range(BUSY, "what of brake", 0, 1, BAD, (x, v) -> x.brake(0, 1, v));
        range(NEW, "what of brake without cars", 0, 1, BAD, (x, v) -> x.brake(0, 1, v));
        are("brake without cars", new int[] {new GhostTrain().brake(11, 100, 0), new GhostTrain().brake(11, 100, 1)}, 0, 0);
    }

    /** A CAR that goes on by 1 in all parts but the fourth, where it goes by 6; part 5 is the one with a SCARE. */
    private static GhostTrain walker(int foot) {
        GhostTrain x = new GhostTrain();
        for (int part = 0; part < 12; part++) {
            x.lays(part, 0, part == 4 ? 0 : 5);
        }
        x.lays(5, 2, 60);
        x.car(0, foot, 1);
        return x;
    }

    /** It enters part 5 in so many seconds, the last four of which it is in part 4. */
    private static GhostTrain walkerIn(int seconds) {
        return walker((80 - (seconds - 4) + 240) % 240);
    }

    @Says({"BEST BRAKE of a PART, for n (1 .. 100)", "MOVED of a SCARE, for n (1 .. 100).", "KISS of a PART, for n (1 .. 100)."})
    static void promise18To22AllSecondsOfN() {
        for (int n = 98; n <= 100; n++) {
            for (int in = 98; in <= 101; in++) {
                String told = "SCREAMS behind " + n + ", that come in " + in;
                int come = in <= n ? 2 : 0;
                is(told + ": brake", walkerIn(in).brake(9, n, 1), come);
                is(told + ": moved", walkerIn(in).moved(5, 10, n), -come);
                is(told + ": kiss", walkerIn(in).kiss(4, n), come);
                GhostTrain x = walkerIn(in);
                x.car(5, 100, 1);
                is(told + ": off", x.off(n, 1), come);
                GhostTrain y = walker((100 - in + 240) % 240);
                y.lays(4, 0, 5);
                is(told + ": kind", y.kind(0, n, 1), in <= n ? 4 : 0);
            }
        }
    }

    @Says("BEST BRAKE of a PART, for n: the BRAKE 0 .. 9 with which SCREAMS of all less STOOD of all behind n SECONDS are "
            + "most; of several the least.")
    static void promise18From0To9() {
        for (int best = 0; best <= 9; best++) {
            GhostTrain x = tooEarly();
            Due.text(x, "pace 2-(b=" + best + ")");
            are("one brake alone is slow", new int[] {x.brake(0, 2, 0), x.brake(0, 2, 1)}, best, 4);
            Due.text(x, "pace 1+(b<" + best + ")");
            are("all from one on are slow", new int[] {x.brake(0, 2, 0), x.brake(0, 2, 1)}, best, 4);
            Due.text(x, "pace 2-(b=10|b<0)");
            are("none is slow", new int[] {x.brake(0, 2, 0), x.brake(0, 2, 1)}, 0, 2);
        }
    }

    /** A CAR that has screamed in part 1; by 2 feet it comes there again before it is set, by 1 foot when it is. */
    private static GhostTrain tooEarly() {
        GhostTrain x = new GhostTrain();
        x.car(0, 19, 1);
        x.lays(1, 2, 2);
        x.seconds(1);
        x.set(0, 1, 18);
        return x;
    }

    @Says("0 the BRAKE, 1 SCREAMS less STOOD.")
    static void promise18LessStood() {
        GhostTrain x = new GhostTrain();
        x.gap(1);
        x.car(0, 0, 1);
        x.car(0, 0, 1);
        is("one stands", x.brake(5, 1, 1), -1);
        x.seconds(1);
        is("STOOD that were count", x.brake(5, 1, 1), -1);
        x.lays(0, 2, 1);
        x.set(1, 1, 239);
        x.set(0, 1, 100);
        is("SCREAMS less STOOD", x.brake(5, 1, 1), 2 - 1);
    }

    @Says("MOVED of a SCARE, for n (1 .. 100). BAD (also one and the same).")
    static void promise19Bad() {
        range(BUSY, "part of moved", 0, 11, BAD, (x, v) -> x.moved(v, (v & 15) == 5 ? 6 : 5, 1));
        range(BUSY, "other of moved", 0, 11, BAD, (x, v) -> x.moved((v & 15) == 5 ? 6 : 5, v, 1));
        range(BUSY, "n of moved", 1, 100, BAD, (x, v) -> x.moved(0, 1, v));
        for (int part = 0; part < 12; part++) {
            int same = part;
            refuses(BUSY, "moved(" + part + ", " + part + ", 1)", BAD, x -> x.moved(same, same, 1));
        }
        refuses(BUSY, "moved(12, 12, 1)", BAD, x -> x.moved(12, 12, 1));
    }

    @Says("MOVED of a SCARE from one PART to another one (they change SCARES, SET too), for n: SCREAMS of all behind n "
            + "SECONDS, less as it is.")
    static void promise19SetToo() {
        GhostTrain x = new GhostTrain();
        x.car(0, 19, 1);
        x.lays(1, 2, 60);
        x.seconds(1);
        x.set(0, 1, 39);
        x.lays(2, 2, 3);
        is("SET of part 1 comes too", x.moved(1, 2, 1), -2);
        is("and the other way round", x.moved(2, 1, 1), -2);
        x.set(0, 1, 19);
        is("a SCARE that is set comes", x.moved(2, 1, 1), 2);
        is("from part 1 to 2 alike", x.moved(1, 2, 1), 2);
        is("none of both is where it enters", x.moved(3, 2, 1), 0);
        is("SCREAMS behind are less as it is", x.behind(1, 0), 2);
    }

    @Says("OFF for n (1 .. 100): what 0 the CAR, 1 SCREAMS. BAD; NONE: there are no CARS.")
    static void promise20Bad() {
        range(BUSY, "n of off", 1, 100, BAD, (x, v) -> x.off(v, 0));
        range(BUSY, "what of off", 0, 1, BAD, (x, v) -> x.off(1, v));
        range(CRAMMED, "n of off, eight cars", 1, 100, BAD, (x, v) -> x.off(v, 1));
        for (int what = 0; what <= 1; what++) {
            int asked = what;
            refuses(NEW, "off(1, " + what + ") without cars", NONE, x -> x.off(1, asked));
            refuses(NEW, "off(100, " + what + ") without cars", NONE, x -> x.off(100, asked));
            refuses(NEW, "off(0, " + what + ") without cars", BAD, x -> x.off(0, asked));
            refuses(NEW, "off(101, " + what + ") without cars", BAD, x -> x.off(101, asked));
            is("off(1, " + what + ") of one car", ONE.make().off(1, asked), 0);
        }
        refuses(NEW, "off(1, -1) without cars", BAD, x -> x.off(1, -1));
        refuses(NEW, "off(1, 2) without cars", BAD, x -> x.off(1, 2));
    }

    @Says("OFF for n: the CAR without which (it is not there at all) SCREAMS of all others behind n SECONDS are most; of "
            + "several the least.")
    static void promise20NotThereAtAll() {
        for (int gone = 0; gone < 8; gone++) {
            GhostTrain x = new GhostTrain();
            for (int car = 0; car < 8; car++) {
                x.car(0, car == gone ? 28 : 19 + 20 * (car < gone ? car : car - 1), 1);
            }
            x.lays(1, 2, 60);
            x.lays(1 + 1, 2, 60);
            // The one on foot 28 leaves no ROOM to the one on foot 19 that would scream; all others are 20 feet apart.
            is("the one in the way", x.off(1, 0), gone);
            is("without it", x.off(1, 1), 4);
        }
        for (int cars = 1; cars <= 8; cars++) {
            GhostTrain x = new GhostTrain();
            for (int car = 0; car < cars; car++) {
                x.car(0, 30 * car, 1);
            }
            is("of several the least", x.off(1, 0), 0);
        }
    }

    @Says("SCREAMS of all others behind n SECONDS are most")
    static void promise20OfAllOthers() {
        int[] kinds = {0, 4, 1, 2};
        GhostTrain x = new GhostTrain();
        for (int car = 0; car < 4; car++) {
            x.car(kinds[car], 19 + 40 * car, 1);
            x.lays(1 + 2 * car, 2, 60);
        }
        x.seconds(1);
        are("2, 4, 1, 3 that came by now", new int[] {x.ride(0), x.off(1, 0), x.off(1, 1)}, 10, 2, 9);
        x.set(2, 1, 39);
        x.lays(2, 2, 60);
        x.turns(2, 4);
        are("car 2 has 1 by now and 4 come, car 0 has 2 and none comes", new int[] {x.off(1, 0), x.off(1, 1)}, 0, 12);
        are("behind 1 second", new int[] {x.behind(1, 0), x.ride(0)}, 14, 10);
    }

    @Says("AS KIND of a CAR, for n (1 .. 100): what 0 the KIND, 1 SCREAMS. BAD.")
    static void promise21Bad() {
        range(BUSY, "car of kind", 0, 2, BAD, (x, v) -> x.kind(v, 1, 0));
        range(BUSY, "n of kind", 1, 100, BAD, (x, v) -> x.kind(0, v, 0));
        range(BUSY, "what of kind", 0, 1, BAD, (x, v) -> x.kind(0, 1, v));
        refuses(NEW, "kind(0, 1, 0) without cars", BAD, x -> x.kind(0, 1, 0));
    }

    @Says("AS KIND of a CAR, for n: the KIND with which SCREAMS of all behind n SECONDS are most; of several the least.")
    static void promise21Each() {
        for (int kind = 0; kind < 6; kind++) {
            GhostTrain x = ONE.make();
            x.turns(0, kind);
            are("CAR is the loudest of those by 5", new int[] {x.kind(0, 1, 0), x.kind(0, 1, 1)}, 0, 2);
            x.set(0, 1, 17);
            are("BRIDAL of those by 3", new int[] {x.kind(0, 1, 0), x.kind(0, 1, 1)}, 4, 4);
            x.set(0, 1, 18);
            x.set(0, 2, 99);
            x.lays(0, 1, 5);
            are("LIGHT of those by 2", new int[] {x.kind(0, 1, 0), x.kind(0, 1, 1)}, 2, 3);
            x.set(0, 1, 0);
            are("none comes so far: the least", new int[] {x.kind(0, 1, 0), x.kind(0, 1, 1)}, 0, 0);
        }
        are("HEAVY and IRON by 8", new int[] {hurried().kind(0, 1, 0), hurried().kind(0, 1, 1)}, 1, 1);
        are("IRON is late enough", new int[] {lateComer().kind(0, 2, 0), lateComer().kind(0, 2, 1)}, 3, 3);
        are("GHOST alone makes way", new int[] {wayMade().kind(1, 2, 0), wayMade().kind(1, 2, 1)}, 5, 2);
    }

    /** Where it goes down a CAR goes on by 7, a HEAVY one by 9. */
    private static GhostTrain hurried() {
        GhostTrain x = new GhostTrain();
        x.car(2, 12, 1);
        x.lays(0, 0, -1);
        x.lays(1, 2, 60);
        return x;
    }

    /** It goes up: CAR and HEAVY come into part 1 before it is set again, IRON behind it, LIGHT and BRIDAL not yet. */
    private static GhostTrain lateComer() {
        GhostTrain x = new GhostTrain();
        x.car(0, 19, 1);
        x.lays(0, 0, 1);
        x.lays(1, 2, 2);
        x.seconds(1);
        x.set(0, 1, 15);
        return x;
    }

    /** Car 0 has no ROOM in the first second, and needs 5 feet of it in the second one. */
    private static GhostTrain wayMade() {
        GhostTrain x = new GhostTrain();
        x.car(0, 15, 99);
        x.car(0, 25, 10);
        x.lays(1, 2, 60);
        Due.text(x, "pace w/10");
        return x;
    }

    @Says("KISS of a PART, for n (1 .. 100). BAD.")
    static void promise22Bad() {
        range(BUSY, "part of kiss", 0, 11, BAD, (x, v) -> x.kiss(v, 1));
        range(BUSY, "n of kiss", 1, 100, BAD, (x, v) -> x.kiss(0, v));
        is("kiss without cars", new GhostTrain().kiss(0, 100), 0);
    }

    @Says("KISS of a PART, for n: SCREAMS as they are behind n SECONDS, less as if its BRAKE were 9 now.")
    static void promise22AsIf9() {
        GhostTrain x = ONE.make();
        is("one second by 6, by 1", x.kiss(0, 1), 2);
        is("four seconds", x.kiss(0, 4), 2);
        is("five seconds: 5 feet by 1 each", x.kiss(0, 5), 0);
        x.lays(0, 1, 8);
        is("no faster by BRAKE 8", x.kiss(0, 4), 0);
        x.lays(0, 0, -3);
        is("BRAKE 8 lets it go by 1, 9 too", x.kiss(0, 4), 0);
        x.lays(0, 0, -4);
        is("BRAKE 8 lets it go by 2, 9 by 1", x.kiss(0, 4), 2);
        Due.text(x, "pace (b=9)*20");
        is("only BRAKE 9 is fast", x.kiss(0, 1), -2);
    }

    @Says("GAPS for n (1 .. 60). BAD; NONE: with none.")
    static void promise23Bad() {
        Made apart = () -> {
            GhostTrain x = busy();
            x.set(0, 1, 100);
            x.set(1, 1, 10);
            x.set(2, 1, 200);
            return x;
        };
        range(apart, "gaps", 1, 60, BAD, (x, v) -> x.gaps(v));
        Made together = () -> {
            GhostTrain x = busy();
            x.set(0, 1, 100);
            x.set(1, 1, 100);
            return x;
        };
        refuses(together, "gaps(1)", NONE, x -> x.gaps(1));
        refuses(together, "gaps(60)", NONE, x -> x.gaps(60));
        refuses(together, "gaps(0)", BAD, x -> x.gaps(0));
        refuses(together, "gaps(61)", BAD, x -> x.gaps(61));
        is("gaps(1) without cars", new GhostTrain().gaps(1), 60);
        is("gaps(60) without cars", new GhostTrain().gaps(60), 60);
    }

    @Says("GAPS for n: the greatest GAP 1 .. 60 with which STOOD of all behind n SECONDS is as now.")
    static void promise23From1To60() {
        int[] feetAndDue = {0, NONE, 1, NONE, 2, 1, 3, 2, 59, 58, 60, 59, 61, 60, 62, 60};
        for (int i = 0; i < feetAndDue.length; i += 2) {
            GhostTrain x = new GhostTrain();
            x.gap(30);
            x.car(0, 0, 1);
            x.car(0, feetAndDue[i], 1);
            is("gaps(1), " + feetAndDue[i] + " feet apart", x.gaps(1), feetAndDue[i + 1]);
            is("gaps(60), " + feetAndDue[i] + " feet apart", x.gaps(60), feetAndDue[i + 1]);
            is("GAP", x.count(2), 30);
        }
    }

    @Says("WEIGHED by a SHEET, for a CAR: what 0 the WEIGHT, 1 the differences, together. BAD; NOTHING.")
    static void promise24Bad() {
        Made noneMissing = () -> {
            GhostTrain x = busy();
            x.sheet(3, 1, 1);
            return x;
        };
        range(noneMissing, "sheet of weighed", 0, 3, BAD, (x, v) -> x.weighed(v, 0, 0));
        range(BUSY, "car of weighed", 0, 2, BAD, (x, v) -> x.weighed(0, v, 0));
        range(BUSY, "what of weighed", 0, 1, BAD, (x, v) -> x.weighed(1, 0, v));
        refuses(BUSY, "weighed(3, 0, 0)", NOTHING, x -> x.weighed(3, 0, 0));
        refuses(BUSY, "weighed(3, 3, 0), BAD goes first", BAD, x -> x.weighed(3, 3, 0));
        refuses(BUSY, "weighed(3, 0, 2), BAD goes first", BAD, x -> x.weighed(3, 0, 2));
    }

    @Says("the WEIGHT 1, 6, .. 96 with which its FOOT behind k SECONDS and places k that are numbers (k from 0 on) differ "
            + "least (signs left out), together; of several the least.")
    static void promise24From1To96() {
        for (int best = 1; best <= 96; best += 5) {
            GhostTrain x = fastBy("w=" + best);
            are("one alone is so fast", new int[] {x.weighed(0, 0, 0), x.weighed(0, 0, 1)}, best, 100);
            x = fastBy("w>" + (best - 1));
            are("all from one on are", new int[] {x.weighed(0, 0, 0), x.weighed(0, 0, 1)}, best, 100);
            x = fastBy("w=" + (best + 1) + "|w=" + (best + 4) + "|w=" + (best - 1));
            are("none of them is", new int[] {x.weighed(0, 0, 0), x.weighed(0, 0, 1)}, 1, 119);
        }
        GhostTrain x = fastBy("w>96|w<1");
        are("none is", new int[] {x.weighed(0, 0, 0), x.weighed(0, 0, 1)}, 1, 119);
    }

    /** The SHEET tells foot 0 where the car is on foot 100, and foot 120 behind one second: by 20, not by 1. */
    private static GhostTrain fastBy(String weights) {
        GhostTrain x = new GhostTrain();
        x.car(0, 100, 50);
        x.sheet(0, 0, 2);
        x.mark(0, 1, 120);
        Due.text(x, "pace (" + weights + ")*20");
        return x;
    }

    @Says("its FOOT behind k SECONDS and places k that are numbers (k from 0 on) differ least (signs left out), together")
    static void promise24PlacesFrom0To23() {
        GhostTrain x = new GhostTrain();
        x.car(5, 0, 50);
        x.sheet(0, 1, 24);
        for (int k = 0; k < 24; k++) {
            x.mark(0, k, 7 * k);
        }
        is("all 24 as they will be", x.weighed(0, 0, 1), 0);
        for (int k : new int[] {0, 1, 22, 23}) {
            x.mark(0, k, 7 * k + 5);
            is("place " + k + " above", x.weighed(0, 0, 1), 5);
            x.mark(0, k, 7 * k - 6);
            is("place " + k + " below", x.weighed(0, 0, 1), 6);
            x.mark(0, k, NONE);
            is("place " + k + " is no number", x.weighed(0, 0, 1), 0);
        }
        x.sheet(1, 0, 0);
        are("no places", new int[] {x.weighed(1, 0, 0), x.weighed(1, 0, 1)}, 1, 0);
        x.sheet(1, 0, 1);
        are("one place", new int[] {x.weighed(1, 0, 0), x.weighed(1, 0, 1)}, 1, 0);
    }
}
