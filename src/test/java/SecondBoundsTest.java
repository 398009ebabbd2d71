/** The bounds that promises 13 to 15 name: seconds. */
final class SecondBoundsTest extends Bounds {
    public static void main(String[] args) throws Exception {
        holdAll(SecondBoundsTest.class);
    }

    @Says("n (1 .. 300) SECONDS (no more than up to 9999): SCREAMS that came in them. BAD.")
    static void promise13Bad() {
        range(BUSY, "seconds", 1, 300, BAD, (x, v) -> x.seconds(v));
        refuses(() -> late(0), "seconds(0) at the last one", BAD, x -> x.seconds(0));
        refuses(() -> late(0), "seconds(301) at the last one", BAD, x -> x.seconds(301));
        for (int n : new int[] {1, 2, 299, 300}) {
            GhostTrain x = new GhostTrain();
            x.car(5, 0, 1);
            x.seconds(n);
            is("THE SECOND behind seconds(" + n + ")", x.count(1), n);
            is("feet behind seconds(" + n + ")", 240 * x.told(0, 6) + x.told(0, 1), 7 * n);
        }
    }

    @Says("SECONDS (no more than up to 9999)")
    static void promise13UpTo9999() {
        int[][] leftAndAsked = {{3, 2}, {2, 2}, {1, 2}, {0, 2}, {1, 1}, {0, 1}, {2, 1}, {299, 300}, {300, 300}, {301, 300}};
        for (int[] both : leftAndAsked) {
            GhostTrain x = lateOne(both[0]);
            int pass = Math.min(both[0], both[1]);
            is("seconds(" + both[1] + ") with " + both[0] + " left", x.seconds(both[1]), 0);
            is("THE SECOND", x.count(1), 9999 - both[0] + pass);
            is("feet gone", 240 * x.told(0, 6) + x.told(0, 1), 7 * pass);
        }
    }

    /** A GHOST on foot 0, so many SECONDS ahead of the last one. */
    private static GhostTrain lateOne(int left) {
        GhostTrain x = new GhostTrain();
        for (int i = 0; i < 32; i++) {
            x.seconds(300);
        }
        x.seconds(98);
        if (left < 301) {
            x.seconds(Math.min(300, 301 - left));
        }
        if (left == 0) {
            x.seconds(1);
        }
        x.car(5, 0, 1);
        return x;
    }

    @Says("SCREAMS that came in them.")
    static void promise13ScreamsThatCame() {
        GhostTrain x = new GhostTrain();
        is("no cars", x.seconds(1), 0);
        x.car(0, 19, 1);
        x.car(4, 119, 1);
        x.lays(1, 2, 60);
        is("one screams", x.seconds(1), 2);
        x.lays(6, 2, 60);
        x.set(1, 1, 119);
        is("those that came earlier are not told again", x.seconds(1), 4);
        is("none came", x.seconds(1), 0);
        is("all", x.ride(0), 6);
        GhostTrain last = late(1);
        last.car(0, 19, 1);
        last.lays(1, 2, 60);
        last.lays(2, 2, 60);
        is("up to 9999 alone", last.seconds(300), 2);
        is("none behind it", last.seconds(300), 0);
    }

    @Says("All together: what 0 SCREAMS, 1 MISSED, 2 STOOD, 3 ROUNDS, 4 FEET; 5 NEAR. BAD.")
    static void promise14Bad() {
        range(BUSY, "ride", 0, 5, BAD, (x, v) -> x.ride(v));
        range(NEW, "ride without cars", 0, 5, BAD, (x, v) -> x.ride(v));
        GhostTrain x = new GhostTrain();
        for (int what = 0; what <= 5; what++) {
            is("ride(" + what + ") without cars", x.ride(what), 0);
        }
    }

    @Says("All together: what 0 SCREAMS, 1 MISSED, 2 STOOD, 3 ROUNDS, 4 FEET; 5 NEAR.")
    static void promise14AllTogether() {
        GhostTrain x = new GhostTrain();
        int[] feet = {19, 59, 99, 139, 239, 238, 236, 237};
        for (int car = 0; car < 8; car++) {
            x.car(2, feet[car], 99);
        }
        x.gap(1);
        x.lays(1, 2, 60);
        x.lays(3, 2, 60);
        x.lays(0, 2, 60);
        x.seconds(1);
        // By 5 each: 24, 64, 104, 144, 244, 243; car 6 has no ROOM behind car 7, which goes to 242.
        are("all together", new int[] {x.ride(0), x.ride(1), x.ride(2), x.ride(3), x.ride(4), x.ride(5)},
                9, 2, 1, 3, 24 + 64 + 104 + 144 + 4 + 3 + 236 + 2, 0);
        x.gap(2);
        is("two are NEAR", x.ride(5), 2);
    }

    @Says("PARTS in which a CAR is, as a set.")
    static void promise15ASet() {
        GhostTrain x = new GhostTrain();
        is("no cars", x.lamps(), 0);
        x.car(0, 0, 1);
        is("part 0", x.lamps(), 1);
        x.car(0, 19, 1);
        is("two in one part", x.lamps(), 1);
        for (int part = 0; part < 12; part++) {
            x.set(0, 1, 20 * part);
            x.set(1, 1, 20 * part + 19);
            is("both ends of part " + part, x.lamps(), 1 << part);
        }
        x.set(0, 1, 219);
        is("parts 10 and 11", x.lamps(), 1024 + 2048);
    }
}
