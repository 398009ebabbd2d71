/** The bounds that terms 0 (what stands ahead of term 1) to 3 and 5 name; those of term 4 are in TextBoundsTest. */
final class TermBoundsTest extends Bounds {
    public static void main(String[] args) throws Exception {
        holdAll(TermBoundsTest.class);
    }

    private static GhostTrain oneCar(int kind, int foot, int weight) {
        GhostTrain x = new GhostTrain();
        x.car(kind, foot, weight);
        return x;
    }

    private static int[] partAsTold(GhostTrain x, int part) {
        return new int[] {x.part(part, 0), x.part(part, 1), x.part(part, 2), x.part(part, 3)};
    }

    // ---- ahead of term 1

    @Says("A call that is refused answers one of BAD, NO, FULL, or a FINDING, of several the one that stands first with it")
    static void term0TheFirst() {
        refuses(CRAMMED, "car: BAD, FULL", BAD, x -> x.car(6, 0, 1));
        refuses(BUSY, "as: BAD, KIND", BAD, x -> x.as(0, 6));
        refuses(NEW, "off: BAD, NONE", BAD, x -> x.off(101, 0));
        refuses(BUSY, "weighed: BAD, NOTHING", BAD, x -> x.weighed(3, 3, 0));
        refuses(BUSY, "sheet: BAD, SIZE", BAD, x -> x.sheet(4, 0, -1));
        refuses(BUSY, "mark: BAD, INDEX, KIND", BAD, x -> x.mark(4, -1, NONE));
        refuses(BUSY, "mark: NOTHING, INDEX, KIND", NOTHING, x -> x.mark(3, -1, NONE));
        refuses(BUSY, "mark: INDEX, KIND", INDEX, x -> x.mark(0, 5, NONE));
        refuses(BUSY, "mark: INDEX, BAD of floats", INDEX, x -> x.mark(1, 13, 100000));
        refuses(BUSY, "copy: BAD, NOTHING, INDEX", BAD, x -> x.copy(3, -1, 4, -1, 1));
        refuses(BUSY, "copy: NOTHING, INDEX", NOTHING, x -> x.copy(3, -1, 0, -1, 1));
        refuses(BUSY, "copy: KIND, INDEX", KIND, x -> x.copy(0, -1, 1, -1, 1));
        refuses(BUSY, "lay: BAD, NOTHING", BAD, x -> x.lay(5, 2, 3));
        refuses(BUSY, "ask: BAD, NOTHING", BAD, x -> x.ask(4, 6));
        refuses(BUSY, "item: BAD, INDEX", BAD, x -> x.item(5, -1));
        refuses(BUSY, "item: NOTHING, INDEX", NOTHING, x -> x.item(4, -1));
        refuses(BUSY, "item: KIND, INDEX", KIND, x -> x.item(3, -1));
        refuses(BUSY, "rest: BAD, NO", BAD, x -> x.rest(5, 0));
        refuses(BUSY, "rest: NOTHING, NO", NOTHING, x -> x.rest(4, 0));
        refuses(BUSY, "rest: KIND, NO", KIND, x -> x.rest(0, 0));
        refuses(NEW, "check: BAD, NO", BAD, x -> x.check(31));
    }

    @Says("and changes nothing (but the tape and the numbers that wait, where told).")
    static void term0TheTapeAndTheNumbers() {
        Made usedUp = () -> {
            GhostTrain x = busy();
            x.trim(0);
            return x;
        };
        refuses(usedUp, "text()", -109, x -> {
            Due.tape(x, "fee 4321-");
            return x.text();
        });
        refuses(usedUp, "text() of no bytes", -100, x -> x.text());
        refuses(usedUp, "a FAULT, and nothing else than THE TAPE", -105, x -> Due.text(x, "fee (") + x.count(6));
        Made fullAndUsedUp = () -> {
            GhostTrain x = crammed();
            x.trim(0);
            return x;
        };
        refuses(fullAndUsedUp, "text() where there is no room", FULL, x -> {
            Due.tape(x, "fine 1");
            return x.text();
        });
        Made noneWait = () -> {
            GhostTrain x = busy();
            x.check(1);
            return x;
        };
        refuses(noneWait, "check(0), and nothing else than the numbers", BAD, x -> x.tell(5) + x.check(0) - 1);
        refuses(noneWait, "check(1) that is not so", 1, x -> x.tell(5) + x.check(1) - 1);
    }

    @Says("An object is used for at most 512 calls after it has been made")
    static void term0UsedFor512Calls() {
        GhostTrain feeds = new GhostTrain();
        GhostTrain dreams = new GhostTrain();
        GhostTrain keeps = new GhostTrain();
        GhostTrain lays = new GhostTrain();
        dreams.car(0, 0, 1);
        keeps.car(5, 0, 1);
        lays.sheet(0, 1, 24);
        int last = 0;
        for (int call = 2; call <= 512; call += 2) {
            feeds.feed(0x66656520, 0x39393939, 0x2d313131);
            last = feeds.text();
            if (call > 2) {
                is("behind(300, 4)", dreams.behind(300, 4), 300 * 6 % 240);
                is("gaps(60)", dreams.gaps(60), 60);
                keeps.keep();
                keeps.seconds(1);
                lays.lay(call % 5, 2, 0);
                lays.copy(0, 0, 0, 1, 23);
            }
        }
        is("the 512th call: text()", last, FULL);
        is("the 512th call: count(1)", dreams.count(1), 0);
        is("the 512th call: told(0, 1)", keeps.told(0, 1), 7 * 255 % 240);
        is("the 512th call: item(4, 23)", lays.item(4, 23), 0);
    }

    @Says("Sets of CARS, of PARTS are told by bits.")
    static void term0Bits() {
        for (int part = 0; part < 12; part++) {
            is("lamps() of part " + part, oneCar(0, 20 * part, 1).lamps(), 1 << part);
        }
    }

    // ---- term 1

    @Says("THE TRACK is a ring of 240 feet, told 0 .. 239")
    static void term1ARingOf240Feet() {
        range(NEW, "foot of car", 0, 239, BAD, (x, v) -> x.car(5, v, 1));
        int[] fromAndTo = {0, 7, 231, 238, 232, 239, 233, 0, 234, 1, 239, 6};
        for (int i = 0; i < fromAndTo.length; i += 2) {
            GhostTrain x = oneCar(5, fromAndTo[i], 1);
            x.seconds(1);
            is("foot behind " + fromAndTo[i], x.told(0, 1), fromAndTo[i + 1]);
        }
    }

    @Says("twenty feet each (foot f is in PART f / 20)")
    static void term1TwentyFeetEach() {
        GhostTrain x = oneCar(0, 0, 1);
        for (int part = 0; part < 12; part++) {
            x.lays(part, 1, part % 5);
        }
        for (int foot = 0; foot < 240; foot++) {
            if (foot % 20 < 2 || foot % 20 > 17) {
                x.set(0, 1, foot);
                is("lamps on foot " + foot, x.lamps(), 1 << foot / 20);
                is("PACE on foot " + foot, x.told(0, 7), 6 - foot / 20 % 5);
            }
        }
    }

    @Says({"each with RISE -9 .. 9 (0 at first; below 0: down), BRAKE 0 .. 9 (0 at first), SCARE 0 .. 60 (seconds that it takes to "
            + "be set again; 0: there is none, at first), SET in so many seconds (0: it is; at first).", "PARTS 0 .. 11"})
    static void term1PartsAtFirst() {
        for (int part = 0; part < 12; part++) {
            are("part " + part, partAsTold(new GhostTrain(), part), 0, 0, 0, 0);
            GhostTrain x = oneCar(1, 20 * part, 40);
            x.lays(part, 0, -1);
            is("below 0: down, faster", x.told(0, 7), 8 + 1 + 2);
            x.lays(part, 0, 1);
            is("above 0: up, slower", x.told(0, 7), 8 - 1);
        }
        refuses(NEW, "part(12, 0)", BAD, x -> x.part(12, 0));
        refuses(NEW, "part(-1, 0)", BAD, x -> x.part(-1, 0));
    }

    @Says("SCARE 0 .. 60 (seconds that it takes to be set again; 0: there is none, at first)")
    static void term1SetAgain() {
        for (int scare : new int[] {1, 2, 3, 59, 60}) {
            for (int wait = Math.max(1, scare - 1); wait <= scare + 1; wait++) {
                GhostTrain x = oneCar(4, 19, 99);
                x.lays(1, 2, scare);
                // By 1 foot each second it comes nowhere else.
                for (int part = 0; part < 12; part++) {
                    x.lays(part, 1, 9);
                }
                is("it screams", x.seconds(1), 4);
                is("SET in", x.part(1, 3), scare);
                x.set(0, 1, 100);
                if (wait > 1) {
                    x.seconds(wait - 1);
                }
                x.set(0, 1, 19);
                is("SCARE " + scare + " behind " + wait + " seconds", x.seconds(1), wait < scare ? 0 : 4);
                is("MISSED", x.told(0, 4), wait < scare ? 1 : 0);
                is("SET in", x.part(1, 3), wait < scare ? scare - wait : scare);
            }
        }
        GhostTrain x = oneCar(0, 19, 1);
        are("SCARE 0: there is none", new int[] {x.seconds(1), x.told(0, 4), x.part(1, 3)}, 0, 0, 0);
    }

    @Says("CARS, 8 at most, numbered from 0: FOOT, WEIGHT 1 .. 99, SCREAMS, MISSED, STOOD (0 each at first), ROUNDS (0 at first)")
    static void term1CarsAtFirst() {
        GhostTrain x = new GhostTrain();
        is("drawn", x.deal(4), 4);
        for (int car = 4; car < 8; car++) {
            is("its number", x.car(3, 239, 99), car);
        }
        for (int car = 0; car < 8; car++) {
            are("at first", new int[] {x.told(car, 3), x.told(car, 4), x.told(car, 5), x.told(car, 6)}, 0, 0, 0, 0);
        }
        refuses(CRAMMED, "a ninth", FULL, y -> y.car(0, 0, 1));
        is("none is drawn", crammed().deal(8), 0);
        GhostTrain y = new GhostTrain();
        oneMadeAndGone(y);
        is("the number of one that is gone", y.car(2, 3, 4), 0);
        are("at first", new int[] {y.told(0, 0), y.told(0, 1), y.told(0, 2), y.told(0, 3), y.told(0, 4), y.told(0, 5),
            y.told(0, 6)}, 2, 3, 4, 0, 0, 0, 0);
    }

    /** It screamed, missed, stood and went round; it is not in THE IMAGE. */
    private static void oneMadeAndGone(GhostTrain x) {
        x.keep();
        x.car(0, 239, 1);
        x.car(0, 239, 1);
        x.lays(0, 2, 3);
        x.seconds(1);
        x.set(1, 1, 100);
        x.seconds(1);
        x.set(0, 1, 239);
        x.seconds(1);
        x.back();
    }

    @Says("of KINDS: 0 CAR; 1 HEAVY, 2 LIGHT, 5 GHOST, under CAR; 3 IRON, under HEAVY; 4 BRIDAL, under LIGHT (all are CARS).")
    static void term1Kinds() {
        int[] above = {-1, 0, 0, 1, 2, 0};
        for (int kind = 0; kind < 6; kind++) {
            GhostTrain x = oneCar(kind, 0, 77);
            for (int as = 0; as < 6; as++) {
                boolean isOne = as == kind || as == above[kind] || as == 0;
                is("as(0, " + as + ") of kind " + kind, x.as(0, as), isOne ? 77 : KIND);
            }
        }
    }

    @Says({"GAP is 1 .. 60 (10 at first).", "THE SECOND is 0 at first, 9999 at most."})
    static void term1GapAndTheSecond() {
        are("at first", new int[] {new GhostTrain().count(2), new GhostTrain().count(1)}, 10, 0);
        range(NEW, "gap", 1, 60, BAD, (x, v) -> x.gap(v));
        for (int left = 0; left <= 2; left++) {
            GhostTrain x = late(left);
            is("THE SECOND", x.count(1), 9999 - left);
            x.seconds(1);
            is("and one more", x.count(1), Math.min(9999, 10000 - left));
            x.seconds(300);
            is("and many more", x.count(1), 9999);
        }
    }

    @Says("CAR: what pace gives, held within 1 .. 20")
    static void term1PaceByATextHeld() {
        String[] given = {"0-8192*8192*32", "0-9999", "0-1", "0", "1", "2", "19", "20", "21", "9999", "0-1-8192*8192*32"};
        int[] due = {1, 1, 1, 1, 1, 2, 19, 20, 20, 20, 20};
        for (int i = 0; i < given.length; i++) {
            GhostTrain x = oneCar(0, 0, 50);
            Due.text(x, "pace " + given[i]);
            is("PACE by " + given[i], x.pace(0, 3), due[i]);
        }
    }

    @Says("(without a TEXT: 6 and WEIGHT / 20, less RISE, less BRAKE; held within 1 .. 20)")
    static void term1PaceWithoutAText() {
        int[] weightAndDue = {1, 6, 19, 6, 20, 7, 21, 7, 39, 7, 40, 8, 59, 8, 60, 9, 79, 9, 80, 10, 81, 10, 99, 10};
        for (int i = 0; i < weightAndDue.length; i += 2) {
            GhostTrain x = oneCar(0, 0, weightAndDue[i]);
            is("PACE by WEIGHT " + weightAndDue[i], x.pace(0, 0), weightAndDue[i + 1]);
            for (int rise = -9; rise <= 9; rise++) {
                x.lays(0, 0, rise);
                is("by RISE " + rise, x.pace(0, 0), Math.max(1, weightAndDue[i + 1] - rise));
            }
            x.lays(0, 0, 0);
            for (int brake = 0; brake <= 9; brake++) {
                x.lays(0, 1, brake);
                is("by BRAKE " + brake, x.pace(0, 0), Math.max(1, weightAndDue[i + 1] - brake));
            }
        }
        GhostTrain x = oneCar(0, 0, 99);
        x.lays(0, 0, -9);
        is("the most", x.pace(0, 0), 19);
        x.lays(0, 0, 9);
        x.lays(0, 1, 9);
        is("the least", x.pace(0, 0), 1);
    }

    private static void paces(int kind, int rise, int brake, int... asCarAndDue) {
        for (int i = 0; i < asCarAndDue.length; i += 2) {
            GhostTrain x = oneCar(kind, 0, 50);
            x.lays(7, 0, rise);
            x.lays(7, 1, brake);
            Due.text(x, "pace " + asCarAndDue[i]);
            is("kind " + kind + ", RISE " + rise + ", BRAKE " + brake + ", as CAR " + asCarAndDue[i], x.pace(0, 7),
                    asCarAndDue[i + 1]);
        }
    }

    @Says("HEAVY: as CAR, and 2, if RISE is below 0 (20 at most).")
    static void term1PaceOfHeavy() {
        paces(1, -9, 9, 1, 3, 17, 19, 18, 20, 19, 20, 20, 20);
        paces(1, -1, 0, 1, 3, 17, 19, 18, 20, 19, 20, 20, 20);
        paces(1, 0, 0, 1, 1, 2, 2, 19, 19, 20, 20);
        paces(1, 1, 9, 1, 1, 2, 2, 19, 19, 20, 20);
    }

    @Says("IRON: as HEAVY, less 1, if RISE is above 0 (1 at least).")
    static void term1PaceOfIron() {
        paces(3, -9, 9, 1, 3, 17, 19, 18, 20, 19, 20, 20, 20);
        paces(3, -1, 0, 1, 3, 17, 19, 18, 20, 19, 20, 20, 20);
        paces(3, 0, 9, 1, 1, 2, 2, 20, 20);
        paces(3, 1, 0, 1, 1, 2, 1, 3, 2, 20, 19);
        paces(3, 9, 9, 1, 1, 2, 1, 3, 2, 20, 19);
    }

    @Says("LIGHT: half (cut) of as CAR, 1 at least.")
    static void term1PaceOfLight() {
        for (int rise = -1; rise <= 1; rise++) {
            paces(2, rise, 9, 0, 1, 1, 1, 2, 1, 3, 1, 4, 2, 5, 2, 19, 9, 20, 10, 21, 10);
        }
    }

    @Says("BRIDAL: as LIGHT, but 1, if the PART has a BRAKE of 5 or more.")
    static void term1PaceOfBridal() {
        for (int brake = 0; brake <= 9; brake++) {
            paces(4, 0, brake, 1, 1, 4, brake < 5 ? 2 : 1, 20, brake < 5 ? 10 : 1);
            paces(2, 0, brake, 20, 10);
        }
    }

    @Says("GHOST: 7.")
    static void term1PaceOfGhost() {
        for (int rise = -9; rise <= 9; rise += 9) {
            paces(5, rise, 0, 1, 7, 6, 7, 20, 7);
            paces(5, rise, 9, 1, 7, 8, 7, 20, 7);
        }
        is("without a TEXT", oneCar(5, 0, 99).told(0, 7), 7);
    }

    @Says("LOUD: CAR: 2. HEAVY: 1. LIGHT: 3. BRIDAL: as LIGHT, and 1. GHOST: 0. (IRON as HEAVY.)")
    static void term1Loud() {
        int[] due = {2, 1, 3, 1, 4, 0};
        for (int kind = 0; kind < 6; kind++) {
            GhostTrain x = oneCar(kind, 19, 1);
            is("LOUD of kind " + kind, x.told(0, 9), due[kind]);
            x.lays(1, 2, 60);
            is("its SCREAMS", x.seconds(1), due[kind]);
            are("it is not set then, and not MISSED", new int[] {x.part(1, 3), x.told(0, 4)}, 60, 0);
        }
    }

    @Says("WORTH: CAR: WEIGHT. HEAVY: as CAR, and 8. IRON: twice as HEAVY. LIGHT: 99 less WEIGHT. BRIDAL: as LIGHT, less 3. "
            + "GHOST: 4. (A KIND that is not named does as the one above it.)")
    static void term1Worth() {
        int[][] due = {{1, 9, 98, 18, 95, 4}, {2, 10, 97, 20, 94, 4}, {95, 103, 4, 206, 1, 4}, {96, 104, 3, 208, 0, 4},
            {97, 105, 2, 210, -1, 4}, {98, 106, 1, 212, -2, 4}, {99, 107, 0, 214, -3, 4}};
        for (int[] byKinds : due) {
            for (int kind = 0; kind < 6; kind++) {
                GhostTrain x = oneCar(kind, 0, byKinds[0]);
                x.lay(0, 1, 0);
                is("WORTH of kind " + kind + ", WEIGHT " + byKinds[0], x.told(0, 10), byKinds[kind]);
                is("and in a SLOT", x.ask(0, 0), byKinds[kind]);
            }
        }
    }

    @Says("AHEAD of a CAR: of all other CARS the one to which it is fewest feet on (round the ring; 0 to one that is on the same "
            + "foot, if that has a greater number, else 240)")
    static void term1Ahead() {
        int[][] feetAndFeetAhead = {{0, 1, 1, 239}, {0, 239, 239, 1}, {239, 0, 1, 239}, {1, 0, 239, 1}, {0, 0, 0, 240},
            {239, 239, 0, 240}, {120, 0, 120, 120}, {5, 5, 0, 240}, {5, 6, 1, 239}, {5, 4, 239, 1}};
        for (int[] both : feetAndFeetAhead) {
            GhostTrain x = new GhostTrain();
            x.car(0, both[0], 1);
            x.car(0, both[1], 1);
            are("ROOM of cars on " + both[0] + ", " + both[1], new int[] {x.told(0, 8), x.told(1, 8)}, both[2] - 10,
                    both[3] - 10);
        }
        GhostTrain x = new GhostTrain();
        for (int car = 0; car < 8; car++) {
            x.car(0, 100, 1);
        }
        for (int car = 0; car < 8; car++) {
            is("all on one foot", x.told(car, 8), car < 7 ? -10 : 230);
        }
        x.set(3, 1, 99);
        x.set(5, 1, 101);
        int[] due = {-10, -10, -10, -9, -10, 228, -10, -9};
        for (int car = 0; car < 8; car++) {
            is("one behind, one ahead", x.told(car, 8), due[car]);
        }
    }

    @Says("ROOM: these feet less GAP (none ahead: 240).")
    static void term1Room() {
        for (int gap : new int[] {1, 2, 10, 59, 60}) {
            GhostTrain x = oneCar(0, 30, 1);
            x.gap(gap);
            is("none ahead", x.told(0, 8), 240);
            x.car(0, 30, 1);
            are("on the same foot", new int[] {x.told(0, 8), x.told(1, 8)}, -gap, 240 - gap);
            x.set(1, 1, 31);
            are("a foot ahead", new int[] {x.told(0, 8), x.told(1, 8)}, 1 - gap, 239 - gap);
            x.set(1, 1, 29);
            are("a foot behind", new int[] {x.told(0, 8), x.told(1, 8)}, 239 - gap, 1 - gap);
        }
    }

    // ---- term 2

    @Says("(1) each PART with SET above 0 has 1 less.")
    static void term2SetIsLess() {
        for (int part = 0; part < 12; part++) {
            GhostTrain x = oneCar(5, (20 * part + 239) % 240, 1);
            x.lays(part, 2, 2);
            int[] due = {2, 1, 0, 0};
            for (int second = 0; second < 4; second++) {
                x.seconds(1);
                is("SET of part " + part + " behind " + second, x.part(part, 3), due[second]);
                is("SET of the part ahead of it", x.part((part + 11) % 12, 3), 0);
            }
        }
    }

    @Says("(2) CARS by numbers, each by where all are by then")
    static void term2ByNumbers() {
        GhostTrain x = new GhostTrain();
        for (int car = 0; car < 8; car++) {
            x.car(0, 200 - 10 * car, 1);
        }
        x.seconds(1);
        for (int car = 0; car < 8; car++) {
            is("the one ahead of car " + car + " went first", x.told(car, 1), 206 - 10 * car);
        }
        GhostTrain y = new GhostTrain();
        for (int car = 0; car < 8; car++) {
            y.car(0, 100 + 10 * car, 1);
        }
        y.seconds(1);
        for (int car = 0; car < 8; car++) {
            is("the one ahead of car " + car + " goes later", y.told(car, 1), 100 + 10 * car + (car < 7 ? 0 : 6));
        }
    }

    @Says({"it goes on by PACE in the PART in which it is, but by ROOM at most (0 at least)", "if it goes by 0, STOOD is 1 more."})
    static void term2RoomAtMost() {
        int[] roomAndDue = {-10, 0, -9, 0, -1, 0, 0, 0, 1, 1, 2, 2, 5, 5, 6, 6, 7, 6, 100, 6, 228, 6};
        for (int i = 0; i < roomAndDue.length; i += 2) {
            GhostTrain x = oneCar(0, 20, 1);
            x.lays(0, 0, 5);
            x.lays(2, 0, 5);
            x.car(0, (30 + roomAndDue[i]) % 240, 1);
            is("ROOM", x.told(0, 8), roomAndDue[i]);
            x.seconds(1);
            is("foot", x.told(0, 1), 20 + roomAndDue[i + 1]);
            is("STOOD", x.told(0, 5), roomAndDue[i + 1] == 0 ? 1 : 0);
        }
        GhostTrain alone = oneCar(0, 20, 1);
        Due.text(alone, "pace 20");
        alone.seconds(1);
        are("none ahead", new int[] {alone.told(0, 1), alone.told(0, 5)}, 40, 0);
    }

    @Says("If it is past foot 239: ROUNDS is 1 more, FOOT 240 less.")
    static void term2PastFoot239() {
        int[] fromFootAndRounds = {219, 239, 0, 220, 0, 1, 221, 1, 1, 239, 19, 1, 0, 20, 0};
        for (int i = 0; i < fromFootAndRounds.length; i += 3) {
            GhostTrain x = oneCar(0, fromFootAndRounds[i], 1);
            Due.text(x, "pace 20");
            x.seconds(1);
            are("FOOT, ROUNDS from " + fromFootAndRounds[i], new int[] {x.told(0, 1), x.told(0, 6)},
                    fromFootAndRounds[i + 1], fromFootAndRounds[i + 2]);
        }
        GhostTrain x = oneCar(0, 0, 1);
        Due.text(x, "pace 20");
        are("rounds", new int[] {x.behind(11, 3), x.behind(12, 3), x.behind(23, 3), x.behind(24, 3)}, 0, 1, 1, 2);
    }

    @Says("For each PART that it enters (one behind the other), if there is a SCARE")
    static void term2Enters() {
        for (int part = 0; part < 12; part++) {
            for (int pace = 1; pace <= 20; pace += 19) {
                for (int from = -pace - 1; from <= 1; from++) {
                    GhostTrain x = oneCar(0, (20 * part + from + 240) % 240, 1);
                    Due.text(x, "pace " + pace);
                    x.lays(part, 2, 9);
                    boolean enters = from < 0 && from + pace >= 0;
                    is("part " + part + " from " + from + " by " + pace, x.seconds(1), enters ? 2 : 0);
                }
            }
        }
        GhostTrain stands = oneCar(0, 20, 1);
        stands.car(0, 20, 1);
        stands.lays(1, 2, 9);
        is("where it stands it does not enter", stands.seconds(1), 0);
    }

    @Says("if SET is 0, SCREAMS is LOUD more and SET becomes SCARE, else MISSED is 1 more.")
    static void term2ScreamsOrMisses() {
        for (int set = 0; set <= 3; set++) {
            GhostTrain x = oneCar(0, 19, 1);
            x.lays(1, 2, 9);
            x.seconds(1);
            x.set(0, 1, 100);
            if (set < 9) {
                x.seconds(8 - set);
            }
            is("SET", x.part(1, 3), 1 + set);
            x.set(0, 1, 19);
            is("SCREAMS that come by SET " + set, x.seconds(1), set == 0 ? 2 : 0);
            are("SCREAMS, MISSED, SET", new int[] {x.told(0, 3), x.told(0, 4), x.part(1, 3)}, set == 0 ? 4 : 2,
                    set == 0 ? 0 : 1, set == 0 ? 9 : set);
        }
        GhostTrain two = oneCar(0, 19, 1);
        two.car(4, 18, 99);
        two.gap(1);
        two.lays(1, 2, 1);
        is("the second one in one second misses", two.seconds(1), 2);
        are("MISSED", new int[] {two.told(0, 4), two.told(1, 4), two.told(1, 3)}, 0, 1, 0);
    }

    @Says("THE SECOND is 1 more.")
    static void term2TheSecond() {
        GhostTrain x = new GhostTrain();
        for (int second = 1; second <= 3; second++) {
            x.seconds(1);
            is("THE SECOND", x.count(1), second);
        }
    }

    @Says({"z is told (1 at first). A draw: z becomes z * 1103515245 + 12345 (an int); it gives z >>> 8.",
        "CARS that are drawn: KIND the rest of a draw by 6, FOOT that of one more by 240, WEIGHT 1 and that of one more by 99."})
    static void term2Draws() {
        is("z at first", new GhostTrain().count(7), 1);
        for (int seed : new int[] {1, 0, -1, LEAST_INT, MOST_INT, 7, 12345, -987654321}) {
            GhostTrain x = new GhostTrain();
            x.seed(seed);
            x.deal(8);
            long z = seed;
            for (int car = 0; car < 8; car++) {
                int[] due = new int[3];
                for (int i = 0; i < 3; i++) {
                    z = z * 1103515245L + 12345L & 0xffffffffL;
                    due[i] = (int) (z >> 8) % (i == 0 ? 6 : i == 1 ? 240 : 99);
                }
                are("car " + car, new int[] {x.told(car, 0), x.told(car, 1), x.told(car, 2)}, due[0], due[1], 1 + due[2]);
            }
            is("z", x.count(7), (int) z);
        }
        GhostTrain x = new GhostTrain();
        x.deal(1);
        are("the first of all", new int[] {x.told(0, 0), x.told(0, 1), x.told(0, 2)}, FIRST_KIND, FIRST_FOOT, FIRST_WEIGHT);
    }

    // By hand: z is 1103527590, 2524885223, 662824084 (taken as above 0); shifted 4310654, 9862832, 2589156.
    private static final int FIRST_KIND = 2, FIRST_FOOT = 32, FIRST_WEIGHT = 10;

    // ---- term 3

    @Says("NEAR: how many CARS have ROOM below 0 now.")
    static void term3Near() {
        int[] feetAndDue = {0, 1, 1, 1, 9, 1, 10, 0, 11, 0, 229, 0, 230, 0, 231, 1, 239, 1};
        for (int i = 0; i < feetAndDue.length; i += 2) {
            GhostTrain x = oneCar(0, 0, 1);
            is("one alone", x.ride(5), 0);
            x.car(0, feetAndDue[i], 1);
            is("NEAR, " + feetAndDue[i] + " feet", x.ride(5), feetAndDue[i + 1]);
        }
        GhostTrain x = new GhostTrain();
        x.gap(60);
        for (int car = 0; car < 8; car++) {
            x.car(0, 30 * car, 1);
        }
        is("all of eight", x.ride(5), 8);
        x.gap(30);
        is("ROOM 0 of eight", x.ride(5), 0);
    }

    private interface Thought extends Call {
    }

    private static final Thought[] THOUGHTS = {x -> x.behind(300, 0), x -> x.behind(300, 1), x -> x.behind(300, 2),
        x -> x.behind(300, 3), x -> x.behind(300, 4), x -> x.behind(1, 6), x -> x.stands(), x -> x.brake(0, 100, 1),
        x -> x.brake(1, 9, 0), x -> x.moved(1, 0, 100), x -> x.moved(0, 5, 9), x -> x.off(100, 1), x -> x.off(9, 0),
        x -> x.kind(0, 100, 1), x -> x.kind(1, 2, 0), x -> x.kiss(1, 100), x -> x.kiss(0, 3), x -> x.gaps(60),
        x -> x.gaps(1), x -> x.weighed(0, 2, 0), x -> x.weighed(1, 2, 1)};

    @Says("(All that follows is only thought, from now on, without the bound of THE SECOND: nothing changes.)")
    static void term3NothingChanges() {
        for (int i = 0; i < THOUGHTS.length; i++) {
            Thought thought = THOUGHTS[i];
            refuses(BUSY, "thought " + i, thought.on(busy()), x -> {
                int answer = thought.on(x);
                is("thought once more", thought.on(x), answer);
                return answer;
            });
        }
    }

    @Says("only thought, from now on, without the bound of THE SECOND")
    static void term3WithoutTheBound() {
        for (int left = 0; left <= 1; left++) {
            for (int i = 0; i < THOUGHTS.length; i++) {
                is("thought " + i + ", " + left + " left", THOUGHTS[i].on(scene(late(left))),
                        THOUGHTS[i].on(scene(new GhostTrain())));
            }
            GhostTrain x = scene(late(left));
            is("FOOT behind 1", x.behind(1, 4), 14 + 8);
            is("SCREAMS behind 300 are some", x.behind(300, 0) > x.behind(1, 0) ? 1 : 0, 1);
            is("stands()", x.stands(), 1);
            is("moved out of the way", x.moved(1, 11, 2), -2);
            is("kiss", x.kiss(0, 2), 2);
            is("THE SECOND", x.count(1), 9999 - left);
        }
    }

    /** Car 0 is about to enter part 1, car 3 has no ROOM behind car 4, car 2 is a GHOST. */
    private static GhostTrain scene(GhostTrain x) {
        x.car(0, 14, 40);
        x.car(4, 5, 60);
        x.car(5, 200, 99);
        x.car(3, 120, 99);
        x.car(0, 125, 1);
        x.lays(1, 2, 40);
        x.lays(0, 2, 7);
        x.lays(6, 2, 3);
        x.sheet(0, 0, 3);
        x.sheet(1, 1, 24);
        return x;
    }

    // ---- term 5

    @Says("SHEETS 0 .. 3 are rows of shorts (sort 0) or floats (1; whole numbers), with 0 to 24 places, or MISSING (at first).")
    static void term5SheetsAtFirst() {
        for (int sheet = 0; sheet <= 3; sheet++) {
            int of = sheet;
            refuses(NEW, "pour(" + sheet + ")", NOTHING, x -> x.pour(of));
            refuses(NEW, "reads(" + sheet + ")", NOTHING, x -> x.reads(of));
            refuses(NEW, "mark(" + sheet + ", 0, 0)", NOTHING, x -> x.mark(of, 0, 0));
            for (int n = 0; n <= 24; n++) {
                for (int sort = 0; sort <= 1; sort++) {
                    GhostTrain x = new GhostTrain();
                    is("sheet", x.sheet(sheet, sort, n), n);
                    is("the last place", x.mark(sheet, n - 1, 40000), n == 0 ? INDEX : 1);
                    is("no place", x.mark(sheet, n, 40000), INDEX);
                    x.lay(0, 2, sheet);
                    is("a short or a float", x.item(0, n - 1), n == 0 ? INDEX : sort == 0 ? 40000 - 65536 : 40000);
                }
            }
        }
    }

    @Says("SLOTS 0 .. 4 each hold nothing (at first), a CAR (as it is then, for good), a SHEET (a row of its own, as it was then), "
            + "or a number.")
    static void term5SlotsAtFirst() {
        for (int slot = 0; slot <= 4; slot++) {
            int of = slot;
            refuses(NEW, "ask(" + slot + ", 0)", NOTHING, x -> x.ask(of, 0));
            refuses(NEW, "item(" + slot + ", 0)", NOTHING, x -> x.item(of, 0));
            refuses(NEW, "rest(" + slot + ", 1)", NOTHING, x -> x.rest(of, 1));
            GhostTrain x = busy();
            for (int each = 0; each <= 4; each++) {
                x.lay(each, 3, 60 + each);
            }
            x.lay(slot, 0, 0);
            for (int each = 0; each <= 4; each++) {
                is("slot " + each + " behind lay(" + slot + ", 0, 0)", x.rest(each, 1000), each == slot ? NOTHING : 60 + each);
            }
        }
    }

    @Says("FINDINGS: NOTHING: a SHEET is MISSING, a SLOT holds nothing; INDEX: there is no such place; SIZE: a number of places is "
            + "below 0; KIND: it is none (of a KIND, a number, or another thing).")
    static void term5Findings() {
        refuses(BUSY, "a SHEET is MISSING", NOTHING, x -> x.copy(0, 0, 3, 0, 1));
        refuses(BUSY, "a SLOT holds nothing", NOTHING, x -> x.rest(4, 1));
        refuses(BUSY, "there is no such place", INDEX, x -> x.item(1, 5));
        refuses(BUSY, "a number of places is below 0", SIZE, x -> x.sheet(0, 0, -1));
        refuses(BUSY, "none of a KIND", KIND, x -> x.as(0, 5));
        refuses(BUSY, "no number", KIND, x -> x.item(2, 1));
        refuses(BUSY, "another thing", KIND, x -> x.rest(0, 1));
        are("all of them", new int[] {NOTHING, KIND, INDEX, SIZE, BAD, NO, FULL, NONE}, -1000000011, -1000000012, -1000000013,
                -1000000014, -1000000001, -1000000002, -1000000003, -1000000005);
    }
}
