/** The bounds that promises 32 to 40 name: sheets, slots. */
final class SheetBoundsTest extends Bounds {
    public static void main(String[] args) throws Exception {
        holdAll(SheetBoundsTest.class);
    }

    /** A place of a SHEET, by way of slot 4. */
    private static int place(GhostTrain x, int sheet, int place) {
        x.lay(4, 2, sheet);
        return x.item(4, place);
    }

    private static void row(GhostTrain x, int sheet, int... due) {
        int[] got = new int[due.length];
        for (int i = 0; i < due.length; i++) {
            got[i] = place(x, sheet, i);
        }
        are("places of SHEET " + sheet, got, due);
        is("the place behind them", place(x, sheet, due.length), INDEX);
    }

    /** SHEETS 0 and 2 are of shorts, with five and three places, 1 of floats; 3 is MISSING. */
    private static GhostTrain three() {
        GhostTrain x = new GhostTrain();
        x.sheet(0, 0, 5);
        x.sheet(1, 1, 5);
        x.sheet(2, 0, 3);
        for (int place = 0; place < 5; place++) {
            x.mark(0, place, 10 + place);
            x.mark(1, place, 20 + place);
        }
        return x;
    }

    private static final Made THREE = SheetBoundsTest::three;

    @Says({"A SHEET becomes a row of n places of a sort, all 0 (sort -1: MISSING, n any): n (0). BAD: sheet, sort, n above 24; "
            + "SIZE.", "SIZE: a number of places is below 0"})
    static void promise32Bad() {
        for (int sort = 0; sort <= 1; sort++) {
            int of = sort;
            range(BUSY, "sheet of sheet, sort " + sort, 0, 3, BAD, (x, v) -> x.sheet(v, of, 3));
            for (int n : new int[] {0, 1, 23, 24}) {
                is("sheet(3, " + sort + ", " + n + ")", busy().sheet(3, sort, n), n);
            }
            for (int n : new int[] {25, 26, MOST_INT}) {
                refuses(BUSY, "sheet(0, " + sort + ", " + n + ")", BAD, x -> x.sheet(0, of, n));
            }
            for (int n : new int[] {-1, -2, LEAST_INT}) {
                refuses(BUSY, "sheet(1, " + sort + ", " + n + ")", SIZE, x -> x.sheet(1, of, n));
                refuses(BUSY, "sheet(-1, " + sort + ", " + n + "), BAD goes first", BAD, x -> x.sheet(-1, of, n));
                refuses(BUSY, "sheet(4, " + sort + ", " + n + "), BAD goes first", BAD, x -> x.sheet(4, of, n));
            }
        }
        range(BUSY, "sort of sheet", -1, 1, BAD, (x, v) -> x.sheet(0, v, 3));
        refuses(BUSY, "sheet(0, 2, -1), BAD goes first", BAD, x -> x.sheet(0, 2, -1));
        refuses(BUSY, "sheet(0, -2, -1), BAD goes first", BAD, x -> x.sheet(0, -2, -1));
    }

    @Says("(sort -1: MISSING, n any): n (0).")
    static void promise32Missing() {
        for (int n : new int[] {LEAST_INT, -1, 0, 1, 24, 25, MOST_INT}) {
            for (int sheet = 0; sheet < 4; sheet++) {
                GhostTrain x = busy();
                is("sheet(" + sheet + ", -1, " + n + ")", x.sheet(sheet, -1, n), 0);
                is("it is MISSING", x.pour(sheet), NOTHING);
            }
        }
        range(BUSY, "sheet of sheet, sort -1", 0, 3, BAD, (x, v) -> x.sheet(v, -1, 25));
    }

    @Says("A SHEET becomes a row of n places of a sort, all 0")
    static void promise32All0() {
        GhostTrain x = three();
        x.sheet(0, 1, 4);
        row(x, 0, 0, 0, 0, 0);
        is("it is of floats", x.mark(0, 3, NONE), 1);
        x.sheet(0, 0, 5);
        row(x, 0, 0, 0, 0, 0, 0);
        is("it is of shorts", x.mark(0, 3, NONE), KIND);
        x.sheet(0, 0, 24);
        is("the last place", place(x, 0, 23), 0);
        is("no other one", place(x, 0, 24), INDEX);
        x.sheet(0, 0, 0);
        row(x, 0);
        row(x, 1, 20, 21, 22, 23, 24);
    }

    @Says("BAD: sheet; NOTHING; INDEX; KIND: NONE in a row of shorts; BAD: v of floats.")
    static void promise33Bad() {
        range(() -> {
            GhostTrain x = busy();
            x.sheet(2, 0, 1);
            x.sheet(3, 1, 1);
            return x;
        }, "sheet of mark", 0, 3, BAD, (x, v) -> x.mark(v, 0, 1));
        for (int sheet : new int[] {LEAST_INT, -1, 4, MOST_INT}) {
            refuses(BUSY, "mark(" + sheet + ", 0, 1)", BAD, x -> x.mark(sheet, 0, 1));
            refuses(BUSY, "mark(" + sheet + ", -1, NONE), BAD goes first", BAD, x -> x.mark(sheet, -1, NONE));
        }
        refuses(BUSY, "mark(3, 0, 1)", NOTHING, x -> x.mark(3, 0, 1));
        refuses(BUSY, "mark(3, -1, NONE), NOTHING goes first", NOTHING, x -> x.mark(3, -1, NONE));
        refuses(BUSY, "mark(3, 0, 100000), NOTHING goes first", NOTHING, x -> x.mark(3, 0, 100000));
        range(BUSY, "place of mark, five shorts", 0, 4, INDEX, (x, v) -> x.mark(0, v, 1));
        range(BUSY, "place of mark, thirteen floats", 0, 12, INDEX, (x, v) -> x.mark(1, v, 1));
        refuses(BUSY, "mark(2, 0, 1), no places", INDEX, x -> x.mark(2, 0, 1));
        refuses(BUSY, "mark(0, 5, NONE), INDEX goes first", INDEX, x -> x.mark(0, 5, NONE));
        refuses(BUSY, "mark(0, -1, NONE), INDEX goes first", INDEX, x -> x.mark(0, -1, NONE));
        refuses(BUSY, "mark(1, 13, 100000), INDEX goes first", INDEX, x -> x.mark(1, 13, 100000));
        refuses(BUSY, "mark(1, -1, -100000), INDEX goes first", INDEX, x -> x.mark(1, -1, -100000));
        refuses(BUSY, "mark(0, 0, NONE)", KIND, x -> x.mark(0, 0, NONE));
        range(BUSY, "a float of mark", -99999, 99999, BAD, (x, v) -> x.mark(1, 0, v));
        refuses(BUSY, "mark(1, 0, NONE - 1)", BAD, x -> x.mark(1, 0, NONE - 1));
        refuses(BUSY, "mark(1, 0, NONE + 1)", BAD, x -> x.mark(1, 0, NONE + 1));
    }

    @Says("of shorts its lowest 16 bits")
    static void promise33Shorts() {
        int[] markedAndDue = {32766, 32766, 32767, 32767, 32768, -32768, 32769, -32767, -32767, -32767, -32768, -32768,
            -32769, 32767, 65535, -1, 65536, 0, 65537, 1, -65536, 0, LEAST_INT, 0, MOST_INT, -1, NONE + 1, 13820};
        GhostTrain x = three();
        for (int i = 0; i < markedAndDue.length; i += 2) {
            is("mark(2, 1, " + markedAndDue[i] + ")", x.mark(2, 1, markedAndDue[i]), 1);
            row(x, 2, 0, markedAndDue[i + 1], 0);
        }
        row(x, 0, 10, 11, 12, 13, 14);
    }

    @Says({"of floats v, -99999 .. 99999; NONE: NO NUMBER): 1.", "A place of floats may be NO NUMBER."})
    static void promise33Floats() {
        GhostTrain x = three();
        for (int v : new int[] {-99999, -99998, -32769, -1, 0, 1, 32768, 65537, 99998, 99999}) {
            is("mark(1, 2, " + v + ")", x.mark(1, 2, v), 1);
            row(x, 1, 20, 21, v, 23, 24);
            is("mark(1, 2, NONE)", x.mark(1, 2, NONE), 1);
            row(x, 1, 20, 21, KIND, 23, 24);
        }
    }

    @Says("how many are otherwise then. BAD; NOTHING.")
    static void promise34Bad() {
        Made noneMissing = () -> {
            GhostTrain x = busy();
            x.sheet(3, 0, 12);
            return x;
        };
        range(noneMissing, "pour", 0, 3, BAD, (x, v) -> x.pour(v));
        refuses(BUSY, "pour(3)", NOTHING, x -> x.pour(3));
        refuses(BUSY, "pour(2), no places", 0, x -> x.pour(2));
    }

    @Says("RISES of PARTS, by numbers, become the places of a SHEET from 0 on (each held within -9 .. 9; NO NUMBER, and beyond "
            + "the SHEET: they stay): how many are otherwise then.")
    static void promise34Held() {
        int[] placeAndRise = {-8, -8, -9, -9, -10, -9, -99999, -9, 8, 8, 9, 9, 10, 9, 99999, 9, 0, 0, NONE, 5};
        for (int sort = 0; sort <= 1; sort++) {
            for (int i = 0; i < placeAndRise.length; i += 2) {
                boolean fits = sort == 1 || Math.abs(placeAndRise[i]) < 99;
                for (int part = 0; fits && part < 12; part++) {
                    GhostTrain x = new GhostTrain();
                    x.sheet(0, sort, part + 1);
                    x.mark(0, part, placeAndRise[i]);
                    x.lays(part, 0, 5);
                    is("pour of " + placeAndRise[i], x.pour(0), placeAndRise[i] == NONE ? 0 : 1);
                    is("RISE of part " + part, x.part(part, 0), placeAndRise[i + 1]);
                    is("once more", x.pour(0), 0);
                }
            }
        }
    }

    @Says("NO NUMBER, and beyond the SHEET: they stay")
    static void promise34Beyond() {
        for (int places : new int[] {0, 1, 2, 10, 11, 12, 13, 24}) {
            GhostTrain x = new GhostTrain();
            x.sheet(0, 0, places);
            for (int place = 0; place < places; place++) {
                x.mark(0, place, 7);
            }
            x.lays(0, 0, 7);
            is("pour of " + places + " places", x.pour(0), Math.max(0, Math.min(places, 12) - 1));
            for (int part = 1; part < 12; part++) {
                is("RISE of part " + part, x.part(part, 0), part < places ? 7 : 0);
            }
        }
    }

    @Says("BAD; NOTHING; NONE: there is none.")
    static void promise35Bad() {
        Made noneMissing = () -> {
            GhostTrain x = busy();
            x.sheet(3, 0, 1);
            x.sheet(2, 1, 1);
            return x;
        };
        range(noneMissing, "reads", 0, 3, BAD, (x, v) -> x.reads(v));
        refuses(BUSY, "reads(3)", NOTHING, x -> x.reads(3));
        refuses(BUSY, "reads(2), no places", NONE, x -> x.reads(2));
    }

    @Says("The first place (of numbers alone) at which a SHEET is not FOOT of that CAR (of places that are no CAR all numbers "
            + "are not).")
    static void promise35TheFirst() {
        for (int cars = 0; cars <= 8; cars++) {
            GhostTrain x = new GhostTrain();
            x.sheet(0, 1, 8);
            for (int car = 0; car < cars; car++) {
                x.car(0, 239 - car, 1);
                x.mark(0, car, 239 - car);
            }
            is("all CARS are as told, the next place is no CAR", x.reads(0), cars < 8 ? cars : NONE);
            for (int place = cars; place < 8; place++) {
                x.mark(0, place, NONE);
            }
            is("no numbers behind", x.reads(0), NONE);
            for (int car = 0; car < cars; car++) {
                x.mark(0, cars - 1 - car, car % 2 == 0 ? 240 - cars + car - 1 : 240 - cars + car + 1);
                is("one more is not as told", x.reads(0), cars - 1 - car);
            }
            for (int car = 0; car < cars; car++) {
                x.mark(0, car, NONE);
                is("no number, the next one is not as told", x.reads(0), car + 1 < cars ? car + 1 : NONE);
            }
        }
    }

    @Says("BAD; NOTHING; KIND: they are not of one sort; INDEX.")
    static void promise36Bad() {
        Made noneMissing = () -> {
            GhostTrain x = busy();
            x.sheet(0, 1, 1);
            x.sheet(2, 1, 1);
            x.sheet(3, 1, 1);
            return x;
        };
        range(noneMissing, "from of copy", 0, 3, BAD, (x, v) -> x.copy(v, 0, 1, 0, 1));
        range(noneMissing, "to of copy", 0, 3, BAD, (x, v) -> x.copy(1, 0, v, 0, 1));
        refuses(THREE, "copy(3, 0, 0, 0, 1)", NOTHING, x -> x.copy(3, 0, 0, 0, 1));
        refuses(THREE, "copy(0, 0, 3, 0, 1)", NOTHING, x -> x.copy(0, 0, 3, 0, 1));
        refuses(THREE, "copy(3, 0, 3, 0, 0)", NOTHING, x -> x.copy(3, 0, 3, 0, 0));
        refuses(THREE, "copy(0, 0, 1, 0, 1)", KIND, x -> x.copy(0, 0, 1, 0, 1));
        refuses(THREE, "copy(1, 0, 2, 0, 0), none of them", KIND, x -> x.copy(1, 0, 2, 0, 0));
        refuses(THREE, "copy(3, 0, 4, 0, 1), BAD goes first", BAD, x -> x.copy(3, 0, 4, 0, 1));
        refuses(THREE, "copy(-1, 0, 3, 0, 1), BAD goes first", BAD, x -> x.copy(-1, 0, 3, 0, 1));
        refuses(THREE, "copy(3, -1, 0, 9, 9), NOTHING goes first", NOTHING, x -> x.copy(3, -1, 0, 9, 9));
        refuses(THREE, "copy(0, 9, 1, -1, 9), KIND goes first", KIND, x -> x.copy(0, 9, 1, -1, 9));
    }

    @Says("INDEX. (From a SHEET, its place, to a SHEET, its place.)")
    static void promise36Index() {
        // SHEET 0 has five places, SHEET 2 three.
        int[] places = {LEAST_INT, -1, 0, 1, 2, 3, 4, 5, 6, MOST_INT};
        for (int place : places) {
            for (int many = 0; many <= 6; many++) {
                int so = many;
                boolean from = place >= 0 && place <= 5 && place + many <= 5;
                boolean to = place >= 0 && place <= 3 && place + many <= 3;
                if (from && many <= 3) {
                    is("copy(0, " + place + ", 2, 0, " + many + ")", three().copy(0, place, 2, 0, many), many);
                } else {
                    refuses(THREE, "copy(0, " + place + ", 2, 0, " + many + ")", INDEX, x -> x.copy(0, place, 2, 0, so));
                }
                if (to) {
                    is("copy(0, 0, 2, " + place + ", " + many + ")", three().copy(0, 0, 2, place, many), many);
                } else {
                    refuses(THREE, "copy(0, 0, 2, " + place + ", " + many + ")", INDEX, x -> x.copy(0, 0, 2, place, so));
                }
            }
            refuses(THREE, "copy(0, " + place + ", 2, 0, MOST_INT)", INDEX, x -> x.copy(0, place, 2, 0, MOST_INT));
            refuses(THREE, "copy(0, 0, 2, " + place + ", MOST_INT)", INDEX, x -> x.copy(0, 0, 2, place, MOST_INT));
        }
        for (int many : new int[] {-1, -2, LEAST_INT}) {
            refuses(THREE, "copy(0, 2, 2, 2, " + many + ")", INDEX, x -> x.copy(0, 2, 2, 2, many));
        }
    }

    @Says("So many places of a SHEET come to another one (or the same), as they were: many.")
    static void promise36AsTheyWere() {
        GhostTrain x = three();
        is("the last to the first", x.copy(0, 4, 2, 0, 1), 1);
        row(x, 2, 14, 0, 0);
        is("to the last", x.copy(0, 1, 2, 2, 1), 1);
        row(x, 2, 14, 0, 11);
        row(x, 0, 10, 11, 12, 13, 14);
        is("up, over themselves", x.copy(0, 0, 0, 1, 4), 4);
        row(x, 0, 10, 10, 11, 12, 13);
        is("down, over themselves", x.copy(0, 1, 0, 0, 4), 4);
        row(x, 0, 10, 11, 12, 13, 13);
        is("to where they are", x.copy(0, 0, 0, 0, 5), 5);
        row(x, 0, 10, 11, 12, 13, 13);
        x.mark(1, 4, NONE);
        x.mark(1, 3, -99999);
        is("floats", x.copy(1, 3, 1, 0, 2), 2);
        row(x, 1, -99999, KIND, 22, -99999, KIND);
        is("of full SHEETS", full(x).copy(0, 0, 2, 0, 24), 24);
        is("the last place", place(x, 2, 23), 99);
    }

    private static GhostTrain full(GhostTrain x) {
        x.sheet(0, 0, 24);
        x.sheet(2, 0, 24);
        x.mark(0, 23, 99);
        return x;
    }

    @Says("what it held (0 .. 3). BAD: slot, thing, k; NOTHING: that SHEET is MISSING.")
    static void promise37Bad() {
        range(BUSY, "slot of lay", 0, 4, BAD, (x, v) -> x.lay(v, 3, 1));
        range(BUSY, "thing of lay", 0, 3, BAD, (x, v) -> x.lay(0, v, 1));
        range(BUSY, "CAR of lay", 0, 2, BAD, (x, v) -> x.lay(4, 1, v));
        range(CRAMMED, "CAR of lay", 0, 7, BAD, (x, v) -> x.lay(4, 1, v));
        range(() -> {
            GhostTrain x = busy();
            x.sheet(3, 0, 1);
            return x;
        }, "SHEET of lay", 0, 3, BAD, (x, v) -> x.lay(4, 2, v));
        refuses(NEW, "lay(0, 1, 0) without cars", BAD, x -> x.lay(0, 1, 0));
        for (int slot = 0; slot < 5; slot++) {
            int into = slot;
            refuses(BUSY, "lay(" + slot + ", 2, 3)", NOTHING, x -> x.lay(into, 2, 3));
        }
        refuses(BUSY, "lay(5, 2, 3), BAD goes first", BAD, x -> x.lay(5, 2, 3));
        refuses(BUSY, "lay(-1, 2, 3), BAD goes first", BAD, x -> x.lay(-1, 2, 3));
    }

    @Says("A SLOT holds: thing 0 nothing, 1 CAR k, 2 SHEET k, 3 the number k: what it held (0 .. 3).")
    static void promise37WhatItHeld() {
        for (int held = 0; held <= 3; held++) {
            for (int thing = 0; thing <= 3; thing++) {
                GhostTrain x = busy();
                x.lay(4, held, 1);
                is("what it held", x.lay(4, thing, 0), held);
                is("what it holds", x.lay(4, 0, 0), thing);
                is("nothing", x.lay(4, 0, 0), 0);
            }
        }
        GhostTrain x = new GhostTrain();
        for (int k : new int[] {LEAST_INT, -1, 0, 1, MOST_INT, NONE}) {
            x.lay(4, 3, k);
            is("any number", x.rest(4, NONE), k % NONE);
            is("and its rest by 10", x.rest(4, 10), k % 10);
        }
    }

    @Says("BAD; NOTHING; KIND: it is no CAR, or not of that KIND, nor of one under it.")
    static void promise38Bad() {
        range(() -> {
            GhostTrain x = busy();
            for (int slot = 0; slot < 5; slot++) {
                x.lay(slot, 1, 0);
            }
            return x;
        }, "slot of ask", 0, 4, BAD, (x, v) -> x.ask(v, 0));
        range(BUSY, "kind of ask", 0, 5, BAD, (x, v) -> {
            if (v >= 0 && v < 6) {
                x.turns(0, v);
                x.lay(0, 1, 0);
            }
            return x.ask(0, v);
        });
        refuses(BUSY, "ask(4, 0)", NOTHING, x -> x.ask(4, 0));
        refuses(BUSY, "ask(4, 6), BAD goes first", BAD, x -> x.ask(4, 6));
        refuses(BUSY, "ask(4, -1), BAD goes first", BAD, x -> x.ask(4, -1));
        refuses(BUSY, "ask(5, 0)", BAD, x -> x.ask(5, 0));
        refuses(BUSY, "ask(3, 0) of a number", KIND, x -> x.ask(3, 0));
        refuses(BUSY, "ask(1, 0) of a SHEET", KIND, x -> x.ask(1, 0));
        refuses(BUSY, "ask(1, 6) of a SHEET, BAD goes first", BAD, x -> x.ask(1, 6));
        refuses(BUSY, "ask(0, 2) of an IRON one", KIND, x -> x.ask(0, 2));
        refuses(BUSY, "ask(0, 4) of an IRON one", KIND, x -> x.ask(0, 4));
        refuses(BUSY, "ask(0, 5) of an IRON one", KIND, x -> x.ask(0, 5));
        for (int kind : new int[] {0, 1, 3}) {
            refuses(BUSY, "ask(0, " + kind + ") of an IRON one", 2 * (99 + 8), x -> x.ask(0, kind));
        }
    }

    @Says({"KIND: it is no CAR", "KIND: it is no SHEET", "KIND: it is no number"})
    static void promise38To40NothingOfWhatItHeld() {
        GhostTrain x = new GhostTrain();
        x.car(0, 0, 30);
        x.sheet(0, 0, 1);
        for (int[] things : new int[][] {{1, 2, 3}, {1, 3, 2}, {2, 1, 3}, {2, 3, 1}, {3, 1, 2}, {3, 2, 1}}) {
            for (int thing : things) {
                x.lay(0, thing, 0);
                are("behind thing " + thing, new int[] {x.ask(0, 0), x.item(0, 0), x.rest(0, 7)}, thing == 1 ? 30 : KIND,
                        thing == 2 ? 0 : KIND, thing == 3 ? 0 : KIND);
            }
            x.lay(0, 0, 0);
            are("behind nothing", new int[] {x.ask(0, 0), x.item(0, 0), x.rest(0, 7)}, NOTHING, NOTHING, NOTHING);
        }
    }

    @Says({"a CAR (as it is then, for good)", "WORTH, by its own KIND, of the CAR in a SLOT, taken for one of a KIND (0 .. 5)."})
    static void promise38ForGood() {
        int[] worth = {30, 38, 69, 76, 66, 4};
        for (int kind = 0; kind < 6; kind++) {
            GhostTrain x = new GhostTrain();
            x.keep();
            x.car(kind, 0, 30);
            for (int slot = 0; slot < 5; slot++) {
                x.lay(slot, 1, 0);
            }
            x.turns(0, (kind + 1) % 6);
            x.set(0, 2, 99);
            x.seconds(1);
            x.back();
            for (int slot = 0; slot < 5; slot++) {
                is("ask(" + slot + ", " + kind + ")", x.ask(slot, kind), worth[kind]);
                is("ask(" + slot + ", 0)", x.ask(slot, 0), worth[kind]);
            }
        }
    }

    @Says("A place of the SHEET in a SLOT. BAD: slot; NOTHING; KIND: it is no SHEET; INDEX; KIND: NO NUMBER.")
    static void promise39Bad() {
        range(() -> {
            GhostTrain x = busy();
            for (int slot = 0; slot < 5; slot++) {
                x.lay(slot, 2, 0);
            }
            return x;
        }, "slot of item", 0, 4, BAD, (x, v) -> x.item(v, 0));
        range(BUSY, "place of item, five", 0, 4, INDEX, (x, v) -> x.item(1, v));
        range(() -> {
            GhostTrain x = busy();
            x.sheet(0, 0, 24);
            x.lay(1, 2, 0);
            return x;
        }, "place of item, 24", 0, 23, INDEX, (x, v) -> x.item(1, v));
        for (int place : new int[] {LEAST_INT, -1, 0, 1, MOST_INT}) {
            refuses(BUSY, "item(-1, " + place + ")", BAD, x -> x.item(-1, place));
            refuses(BUSY, "item(5, " + place + ")", BAD, x -> x.item(5, place));
            refuses(BUSY, "item(4, " + place + "), NOTHING goes first", NOTHING, x -> x.item(4, place));
            refuses(BUSY, "item(0, " + place + ") of a CAR", KIND, x -> x.item(0, place));
            refuses(BUSY, "item(3, " + place + ") of a number", KIND, x -> x.item(3, place));
        }
        refuses(BUSY, "item(2, 1), NO NUMBER", KIND, x -> x.item(2, 1));
        refuses(BUSY, "item(2, 0)", 99999, x -> x.item(2, 0));
        refuses(BUSY, "item(2, 12)", -8, x -> x.item(2, 12));
        refuses(BUSY, "item(2, 13)", INDEX, x -> x.item(2, 13));
    }

    @Says("a SHEET (a row of its own, as it was then)")
    static void term5ARowOfItsOwn() {
        GhostTrain x = three();
        x.lay(0, 2, 0);
        x.lay(1, 2, 0);
        x.mark(0, 0, 77);
        are("behind mark", new int[] {x.item(0, 0), x.item(1, 0)}, 10, 10);
        x.copy(0, 1, 0, 0, 4);
        are("behind copy", new int[] {x.item(0, 0), x.item(1, 4)}, 10, 14);
        x.lay(1, 2, 0);
        are("laid again", new int[] {x.item(0, 0), x.item(1, 0)}, 10, 11);
        x.sheet(0, 1, 2);
        are("the SHEET is another", new int[] {x.item(0, 4), x.item(0, 5)}, 14, INDEX);
        x.sheet(0, -1, 0);
        are("the SHEET is MISSING", new int[] {x.item(0, 0), x.item(1, 0), x.lay(0, 0, 0)}, 10, 11, 2);
    }

    @Says("The rest of the number in a SLOT by n. BAD: slot; NOTHING; KIND: it is no number; NO: n is 0.")
    static void promise40Bad() {
        range(() -> {
            GhostTrain x = busy();
            for (int slot = 0; slot < 5; slot++) {
                x.lay(slot, 3, 17);
            }
            return x;
        }, "slot of rest", 0, 4, BAD, (x, v) -> x.rest(v, 5));
        for (int n : new int[] {LEAST_INT, -1, 0, 1, MOST_INT}) {
            refuses(BUSY, "rest(-1, " + n + ")", BAD, x -> x.rest(-1, n));
            refuses(BUSY, "rest(5, " + n + ")", BAD, x -> x.rest(5, n));
            refuses(BUSY, "rest(4, " + n + "), NOTHING goes first", NOTHING, x -> x.rest(4, n));
            refuses(BUSY, "rest(0, " + n + ") of a CAR", KIND, x -> x.rest(0, n));
            refuses(BUSY, "rest(1, " + n + ") of a SHEET", KIND, x -> x.rest(1, n));
        }
        refuses(BUSY, "rest(3, 0)", NO, x -> x.rest(3, 0));
        refuses(BUSY, "rest(3, 1)", 0, x -> x.rest(3, 1));
        refuses(BUSY, "rest(3, -1)", 0, x -> x.rest(3, -1));
        refuses(BUSY, "rest(3, 10)", -5, x -> x.rest(3, 10));
        refuses(BUSY, "rest(3, -10)", -5, x -> x.rest(3, -10));
    }

    @Says("The rest of the number in a SLOT by n.")
    static void promise40OfTheLeastInt() {
        GhostTrain x = new GhostTrain();
        int[] numberByAndDue = {LEAST_INT, -1, 0, LEAST_INT, 1, 0, LEAST_INT, LEAST_INT, 0, LEAST_INT, MOST_INT, -1,
            MOST_INT, LEAST_INT, MOST_INT, MOST_INT, -2, 1, 7, 7, 0, 6, 7, 6, 8, 7, 1, -8, 7, -1, 0, 5, 0};
        for (int i = 0; i < numberByAndDue.length; i += 3) {
            x.lay(2, 3, numberByAndDue[i]);
            is(numberByAndDue[i] + " by " + numberByAndDue[i + 1], x.rest(2, numberByAndDue[i + 1]), numberByAndDue[i + 2]);
        }
    }
}
