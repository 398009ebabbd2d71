/** The bounds that promises 41 to 45 name: rows, images. */
final class ImageBoundsTest extends Bounds {
    public static void main(String[] args) throws Exception {
        holdAll(ImageBoundsTest.class);
    }

    @Says("One more number waits: how many. FULL: 60 wait.")
    static void promise41Full() {
        GhostTrain x = new GhostTrain();
        for (int waiting = 1; waiting <= 60; waiting++) {
            is("tell(" + -waiting + ")", x.tell(-waiting), waiting);
        }
        is("the 61st", x.tell(0), FULL);
        is("waiting", x.count(5), 60);
        refuses(CRAMMED, "tell(1)", FULL, y -> y.tell(1));
        x.check(1);
        is("the first again", x.tell(0), 1);
    }

    @Says("The numbers that wait (none do then, whatever is answered) are THE SECONDS TOLD of n (1 .. 30;")
    static void promise42Bad() {
        for (int n : new int[] {LEAST_INT, -1, 0, 31, 32, MOST_INT}) {
            is("check(" + n + ")", waitingNoMore(busy(), n), BAD);
            is("check(" + n + ") without an IMAGE, BAD goes first", waitingNoMore(twoWait(), n), BAD);
        }
        for (int n : new int[] {1, 2, 29, 30}) {
            is("check(" + n + ") without an IMAGE", waitingNoMore(twoWait(), n), NO);
            is("check(" + n + ") of none", waitingNoMore(kept(), n), 1);
        }
        is("two wait for two", waitingNoMore(busy(), 2), 0);
    }

    private static int waitingNoMore(GhostTrain x, int n) {
        int seconds = x.count(1);
        int answer = x.check(n);
        are("waiting, THE SECOND behind check(" + n + ")", new int[] {x.count(5), x.count(1)}, 0, seconds);
        return answer;
    }

    private static GhostTrain twoWait() {
        GhostTrain x = new GhostTrain();
        x.tell(0);
        x.tell(0);
        return x;
    }

    /** A GHOST on foot 0, and an IMAGE of it. */
    private static GhostTrain kept() {
        GhostTrain x = new GhostTrain();
        x.car(5, 0, 1);
        x.keep();
        return x;
    }

    /** As many of THE SECONDS TOLD as these, of a GHOST on foot 0. */
    private static GhostTrain told(GhostTrain x, int numbers) {
        for (int i = 0; i < numbers; i++) {
            x.tell(i % 2 == 0 ? 7 * (i / 2 + 1) % 240 : 0);
        }
        return x;
    }

    @Says("two by two: 0; else 1 and how many stand right ahead of the first that is not (or is missing, or one too many).")
    static void promise42RightAhead() {
        for (int n : new int[] {1, 2, 29, 30}) {
            for (int numbers = Math.max(0, 2 * n - 3); numbers <= Math.min(60, 2 * n + 3); numbers++) {
                int due = numbers == 2 * n ? 0 : 1 + Math.min(numbers, 2 * n);
                is(numbers + " numbers for " + n + " SECONDS", told(kept(), numbers).check(n), due);
            }
            for (int wrong = 0; wrong < 2 * n; wrong += wrong < 3 || wrong > 2 * n - 4 ? 1 : 2 * n - 6) {
                for (int by = -1; by <= 1; by += 2) {
                    GhostTrain x = told(kept(), wrong);
                    x.tell((wrong % 2 == 0 ? 7 * (wrong / 2 + 1) % 240 : 0) + by);
                    for (int more = wrong + 1; more < 2 * n; more++) {
                        x.tell(more % 2 == 0 ? 7 * (more / 2 + 1) % 240 : 0);
                    }
                    is("number " + wrong + " of " + 2 * n + " is not", x.check(n), 1 + wrong);
                }
            }
        }
    }

    @Says("(1 .. 30; fewer, if THE SECOND would be above 9999)")
    static void promise42Fewer() {
        for (int left = 0; left <= 3; left++) {
            for (int n = 1; n <= 4; n++) {
                int pairs = Math.min(left, n);
                for (int numbers = 0; numbers <= 9; numbers++) {
                    GhostTrain x = late(left);
                    x.car(5, 0, 1);
                    x.keep();
                    int due = numbers == 2 * pairs ? 0 : 1 + Math.min(numbers, 2 * pairs);
                    is(numbers + " numbers for " + n + " SECONDS, " + left + " left", told(x, numbers).check(n), due);
                }
            }
        }
        GhostTrain x = late(30);
        x.car(5, 0, 1);
        x.keep();
        x.seconds(30);
        is("all of 30, by THE IMAGE", told(x, 60).check(30), 0);
        x.back();
        x.seconds(1);
        x.keep();
        is("29 are left", told(x, 0).check(30), 1);
        x.set(0, 1, 0);
        x.keep();
        is("29 are told", told(x, 58).check(30), 0);
        is("29 are told, and one too many", told(x, 59).check(30), 59);
    }

    @Says("by THE IMAGE: FEET of all CARS, together; SCREAMS of all, behind each.")
    static void term5TheSecondsTold() {
        GhostTrain x = new GhostTrain();
        x.car(0, 19, 1);
        x.car(4, 239, 1);
        x.lays(1, 2, 60);
        x.lays(0, 2, 60);
        x.seconds(1);
        x.set(1, 1, 239);
        x.lays(0, 2, 60);
        x.keep();
        x.lays(0, 2, 0);
        x.turns(0, 5);
        x.gap(60);
        x.seconds(7);
        // From foot 25 by 6, from 239 by 3; SCREAMS were 2 and 4, and 4 come.
        for (int number : new int[] {31 + 2, 10, 37 + 5, 10}) {
            x.tell(number);
        }
        is("check(2)", x.check(2), 0);
        GhostTrain y = new GhostTrain();
        y.keep();
        are("no CARS", new int[] {y.tell(0), y.tell(0), y.check(1)}, 1, 2, 0);
    }

    @Says("AN IMAGE is kept: how many CARS.")
    static void promise43HowMany() {
        GhostTrain x = new GhostTrain();
        for (int cars = 0; cars <= 8; cars++) {
            is("keep()", x.keep(), cars);
            is("nothing is otherwise", x.count(0), cars);
            is("back()", x.back(), cars);
            x.car(0, 0, 1);
        }
    }

    @Says("All is as THE IMAGE: how many CARS. NO: there is none.")
    static void promise44No() {
        refuses(NEW, "back()", NO, x -> x.back());
        GhostTrain x = new GhostTrain();
        x.car(0, 0, 1);
        is("back() without an IMAGE", x.back(), NO);
        is("cars", x.count(0), 1);
        x.set(0, 1, 5);
        is("keep()", x.keep(), 1);
        is("back()", x.back(), 1);
        is("foot", x.told(0, 1), 5);
    }

    @Says({"AN IMAGE keeps all but SHEETS, SLOTS, numbers that wait, THE TAPE; all can become as it is (again and again).",
        "All is as THE IMAGE: how many CARS."})
    static void term5AgainAndAgain() {
        Made backAtOnce = () -> {
            GhostTrain x = busy();
            x.back();
            return x;
        };
        for (int again = 1; again <= 2; again++) {
            int times = again;
            refuses(backAtOnce, "back() " + again, 3, x -> {
                int answer = 0;
                for (int i = 0; i < times; i++) {
                    spoil(x);
                    answer = x.back();
                }
                return answer;
            });
        }
        Made keptAgain = () -> {
            GhostTrain x = busy();
            x.keep();
            return x;
        };
        refuses(keptAgain, "back() to another IMAGE", 3, x -> {
            spoil(x);
            return x.back();
        });
    }

    private static void spoil(GhostTrain x) {
        x.seconds(17);
        x.deal(5);
        x.gap(33);
        x.seed(99);
        for (int car = 0; car < 3; car++) {
            x.turns(car, 2);
            x.set(car, 2, 7);
        }
        for (int part = 0; part < 12; part++) {
            x.lays(part, 0, 2);
            x.lays(part, 1, 2);
            x.lays(part, 2, 2);
        }
    }

    @Says("AN IMAGE keeps all but SHEETS, SLOTS, numbers that wait, THE TAPE")
    static void term5ImageOfTexts() {
        GhostTrain x = new GhostTrain();
        x.car(0, 0, 1);
        for (int texts = 0; texts <= 13; texts++) {
            x.keep();
            Due.text(x, "pace 1");
            Due.text(x, "fee 2");
            Due.text(x, "fine 3");
            x.back();
            is("TEXTS", x.count(4), texts);
            is("it is gone", x.textTold(texts, 0), BAD);
            are("the TEXT that counts, if there is one", new int[] {x.why(0), x.why(1), x.why(2)}, NONE,
                    texts == 0 ? NONE : texts - 1, NONE);
            are("what they give", new int[] {x.pace(0, 0), x.fee(), x.fine(0)}, 6, texts == 0 ? 0 : 99 + texts, 0);
            is("the next one", Due.text(x, "fee " + (100 + texts)), texts);
        }
        is("a fifteenth", Due.text(x, "fee 1"), FULL);
    }

    @Says("SHEETS, SLOTS, numbers that wait, THE TAPE")
    static void term5NotInTheImage() {
        GhostTrain x = new GhostTrain();
        x.car(0, 5, 6);
        x.sheet(0, 0, 1);
        x.sheet(2, 0, 1);
        x.lay(0, 3, 5);
        x.lay(1, 3, 5);
        x.tell(1);
        x.feed(0, 0, 0);
        x.keep();
        x.mark(0, 0, 8);
        x.sheet(1, 1, 1);
        x.sheet(2, -1, 0);
        x.lay(0, 3, 9);
        x.lay(1, 1, 0);
        x.lay(2, 2, 0);
        x.tell(1);
        x.feed(0, 0, 0);
        x.back();
        are("SHEETS", new int[] {x.mark(1, 0, NONE), x.pour(2), x.pour(0), x.part(0, 0)}, 1, NOTHING, 1, 8);
        are("SLOTS", new int[] {x.rest(0, 10), x.ask(1, 0), x.item(2, 0)}, 9, 6, 8);
        are("numbers that wait, bytes", new int[] {x.count(5), x.count(6)}, 2, 24);
    }

    @Says("0 how many CARS, 1 THE SECOND, 2 GAP, 3 how many SCARES there are, 4 TEXTS, 5 numbers that wait, 6 bytes of THE TAPE, "
            + "7 z. BAD.")
    static void promise45Bad() {
        range(BUSY, "count", 0, 7, BAD, (x, v) -> x.count(v));
        range(NEW, "count", 0, 7, BAD, (x, v) -> x.count(v));
        int[] busy = {3, 5, 12, 3, 3, 4, 12, -5};
        int[] crammed = {8, 5, 12, 3, 14, 60, 96};
        for (int what = 0; what < 8; what++) {
            is("count(" + what + ")", busy().count(what), busy[what]);
            if (what < 7) {
                is("count(" + what + ") when all is full", crammed().count(what), crammed[what]);
            }
        }
    }

    @Says("3 how many SCARES there are")
    static void promise45Scares() {
        GhostTrain x = new GhostTrain();
        for (int part = 0; part < 12; part++) {
            x.lays(part, 2, part % 2 == 0 ? 1 : 60);
            is("count(3)", x.count(3), part + 1);
        }
        x.lays(11, 2, 0);
        is("count(3)", x.count(3), 11);
        x.lays(0, 2, 0);
        is("count(3)", x.count(3), 10);
    }
}
