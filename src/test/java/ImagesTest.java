/** Promises 41 to 45: rows, images. */
final class ImagesTest {
    private static final int BAD = GhostTrain.BAD;

    public static void main(String[] args) {
        tell();
        check();
        checkByTheImage();
        checkAtTheEnd();
        keepAndBack();
        imageOfTexts();
        whatAnImageLeavesOut();
        count();
        Due.end();
    }

    private static void tell() {
        GhostTrain x = new GhostTrain();
        for (int i = 1; i <= 60; i++) {
            Due.is(41, "how many", x.tell(-i), i);
        }
        Due.is(41, "60 wait", x.tell(0), GhostTrain.FULL);
        Due.is(41, "60 wait still", x.count(5), 60);
    }

    /** Two cars on their way, the second of which screams in the first SECOND. */
    private static GhostTrain two() {
        GhostTrain x = new GhostTrain();
        x.car(0, 0, 1);
        x.car(4, 98, 60);
        x.lays(5, 2, 1);
        x.lays(0, 2, 3);
        return x;
    }

    private static void tellAll(GhostTrain x, int... numbers) {
        for (int number : numbers) {
            x.tell(number);
        }
    }

    private static void check() {
        GhostTrain x = two();
        Due.is(42, "no image", x.check(1), GhostTrain.NO);
        x.tell(1);
        Due.is(42, "no image, one waits", x.check(1), GhostTrain.NO);
        Due.is(42, "it waits no more", x.count(5), 0);
        x.tell(1);
        Due.is(42, "BAD ahead of NO", x.check(0), BAD);
        Due.is(42, "it waits no more behind BAD", x.count(5), 0);
        x.keep();
        Due.is(42, "31", x.check(31), BAD);
        Due.is(42, "-1", x.check(-1), BAD);
        // BRIDAL goes on by 4: 102, 106, 110; CAR by 6: 6, 12, 18.
        tellAll(x, 108, 4, 118, 4, 128, 4);
        Due.is(42, "all of three", x.check(3), 0);
        Due.is(42, "none wait then", x.count(5), 0);
        tellAll(x, 108, 4, 118, 4, 128, 4);
        Due.is(42, "too many for two", x.check(2), 1 + 4);
        tellAll(x, 108, 4, 118, 4, 128, 4);
        Due.is(42, "missing for four", x.check(4), 1 + 6);
        tellAll(x, 108, 4, 118);
        Due.is(42, "half of one is missing", x.check(2), 1 + 3);
        tellAll(x, 107, 4);
        Due.is(42, "the first is not", x.check(1), 1);
        tellAll(x, 108, 5);
        Due.is(42, "the second is not", x.check(1), 2);
        tellAll(x, 108, 4, 118, 4, 127, 4);
        Due.is(42, "the first that is not, ahead of one too many", x.check(3), 5);
        Due.is(42, "none wait", x.check(30), 1);
        Due.is(42, "nothing went on", x.count(1), 0);
    }

    private static void checkByTheImage() {
        GhostTrain x = two();
        x.seconds(1);
        x.keep();
        x.seconds(5);
        x.turns(1, 5);
        x.set(0, 1, 200);
        x.lays(5, 2, 0);
        Due.text(x, "pace 20");
        x.car(0, 50, 1);
        tellAll(x, 118, 4, 128, 4);
        Due.is(42, "by THE IMAGE, not by now", x.check(2), 0);
        GhostTrain y = two();
        Due.text(y, "pace 1");
        y.keep();
        Due.text(y, "pace 20");
        y.gap(60);
        // BRIDAL goes on by 1, half cut, 1 at least.
        tellAll(y, 1 + 99, 0, 2 + 100, 4);
        Due.is(42, "by the TEXT that counted then", y.check(2), 0);
        GhostTrain z = two();
        for (int second = 1; second <= 30; second++) {
            z.keep();
        }
        GhostTrain goesOn = two();
        for (int second = 0; second < 30; second++) {
            goesOn.seconds(1);
            z.tell(goesOn.ride(4));
            z.tell(goesOn.ride(0));
        }
        Due.is(42, "all of thirty", z.check(30), 0);
    }

    private static void checkAtTheEnd() {
        GhostTrain x = new GhostTrain();
        x.car(5, 0, 1);
        for (int i = 0; i < 33; i++) {
            x.seconds(300);
        }
        x.seconds(97);
        x.keep();
        int foot = x.told(0, 1);
        tellAll(x, (foot + 7) % 240, 0, (foot + 14) % 240, 0);
        Due.is(42, "fewer: two are left", x.check(30), 0);
        tellAll(x, (foot + 7) % 240, 0, (foot + 14) % 240, 0, (foot + 21) % 240);
        Due.is(42, "a third is one too many", x.check(30), 1 + 4);
        tellAll(x, (foot + 7) % 240, 0);
        Due.is(42, "one of them", x.check(1), 0);
        x.seconds(2);
        x.keep();
        Due.is(42, "none is left", x.check(5), 0);
        x.tell(0);
        Due.is(42, "one too many", x.check(5), 1);
    }

    private static void keepAndBack() {
        GhostTrain x = new GhostTrain();
        Due.is(44, "no image", x.back(), GhostTrain.NO);
        Due.is(43, "no cars", x.keep(), 0);
        x.car(0, 0, 1);
        Due.is(44, "no cars", x.back(), 0);
        Due.is(44, "none are there", x.count(0), 0);
        x.deal(5);
        x.lays(1, 2, 6);
        x.lays(2, 0, -3);
        x.lays(3, 1, 7);
        x.gap(3);
        x.seconds(40);
        Due.is(43, "five", x.keep(), 5);
        String kept = Due.all(x);
        for (int again = 0; again < 2; again++) {
            x.seconds(17);
            x.deal(3);
            x.gap(20);
            x.seed(5);
            x.turns(0, 1);
            x.set(1, 2, 77);
            x.lays(1, 2, 9);
            x.lays(2, 0, 3);
            x.lays(3, 1, 1);
            Due.is(44, "five", x.back(), 5);
            String back = Due.all(x);
            Due.holds("back is not as kept: " + kept + " / " + back, kept.equals(back));
        }
        x.seconds(1);
        x.keep();
        x.seconds(1);
        x.back();
        Due.is(43, "another image", x.count(1), 41);
    }

    private static void imageOfTexts() {
        GhostTrain x = new GhostTrain();
        Due.text(x, "fee 1");
        x.keep();
        Due.text(x, "fee 2");
        Due.text(x, "fine 3");
        x.back();
        Due.is(44, "TEXTS", x.count(4), 1);
        Due.is(44, "the TEXT that counted", x.fee(), 1);
        Due.is(44, "none counted", x.why(2), GhostTrain.NONE);
        Due.is(44, "one more", Due.text(x, "pace 7"), 1);
        Due.is(44, "its KEY", x.textTold(1, 0), 0);
        x.back();
        Due.is(44, "it is gone", x.textTold(1, 0), BAD);
        Due.is(44, "fee still", x.fee(), 1);
    }

    private static void whatAnImageLeavesOut() {
        GhostTrain x = new GhostTrain();
        x.car(0, 0, 1);
        x.keep();
        x.sheet(0, 0, 2);
        x.mark(0, 1, 7);
        x.lay(0, 3, 9);
        x.tell(1);
        x.feed(1, 2, 3);
        x.back();
        x.lay(1, 2, 0);
        Due.is(44, "SHEETS stay", x.item(1, 1), 7);
        Due.is(44, "SLOTS stay", x.rest(0, 10), 9);
        Due.is(44, "numbers wait still", x.count(5), 1);
        Due.is(44, "THE TAPE stays", x.count(6), 12);
    }

    private static void count() {
        GhostTrain x = new GhostTrain();
        x.deal(3);
        x.seconds(7);
        x.gap(9);
        x.lays(0, 2, 1);
        x.lays(11, 2, 60);
        x.lays(5, 2, 1);
        x.lays(5, 2, 0);
        Due.text(x, "fee 1");
        Due.text(x, "fee 1");
        x.tell(0);
        x.tell(0);
        x.tell(0);
        x.feed(1, 1, 1);
        x.seed(-4);
        int[] due = {3, 7, 9, 2, 2, 3, 12, -4};
        for (int what = 0; what < due.length; what++) {
            Due.is(45, "count(" + what + ")", x.count(what), due[what]);
        }
        Due.is(45, "-1", x.count(-1), BAD);
        Due.is(45, "8", x.count(8), BAD);
    }
}
