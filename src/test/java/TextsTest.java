/** Promises 25 to 31: fee, fine, THE TAPE, TEXTS. */
final class TextsTest {
    private static final int BAD = GhostTrain.BAD;

    public static void main(String[] args) {
        feedAndTrim();
        bytesOfTheTape();
        tapeIsUsedUp();
        values();
        wraps();
        fee();
        fine();
        faultsOfKeys();
        faultsOfPieces();
        faultsOfBlanks();
        ninth();
        full();
        told();
        why();
        Due.end();
    }

    private static void feedAndTrim() {
        GhostTrain x = new GhostTrain();
        for (int i = 1; i <= 8; i++) {
            Due.is(27, "feed " + i, x.feed(1, 2, 3), 12 * i);
        }
        Due.is(27, "more than 96", x.feed(1, 2, 3), GhostTrain.FULL);
        Due.is(28, "97", x.trim(97), BAD);
        Due.is(28, "-1", x.trim(-1), BAD);
        Due.is(28, "85", x.trim(85), 85);
        Due.is(27, "97 bytes would be", x.feed(1, 2, 3), GhostTrain.FULL);
        Due.is(28, "86 of 85", x.trim(86), BAD);
        Due.is(28, "84", x.trim(84), 84);
        Due.is(28, "84 of 84", x.trim(84), 84);
        Due.is(27, "96 bytes", x.feed(1, 2, 3), 96);
        Due.is(28, "0", x.trim(0), 0);
        Due.is(28, "bytes", x.count(6), 0);
    }

    private static void bytesOfTheTape() {
        GhostTrain x = new GhostTrain();
        x.feed(0x66656520, 0x31323334, 0x2d373839);
        Due.is(29, "the highest byte first", x.text(), 0);
        Due.is(25, "fee 1234-789", x.fee(), 445);
        x.feed(0x66656520, 0x39202020, 0x20202020);
        x.trim(5);
        x.feed(0x32373820, 0x20202020, 0x20202020);
        x.trim(7);
        Due.is(28, "what is fed goes behind what is kept", x.text(), 1);
        Due.is(25, "fee 927", x.fee(), 927);
    }

    private static void tapeIsUsedUp() {
        GhostTrain x = new GhostTrain();
        Due.is(29, "an empty tape", x.text(), -100);
        Due.tape(x, "fee 7");
        Due.is(29, "a TEXT", x.text(), 0);
        Due.is(29, "used up", x.count(6), 0);
        Due.is(29, "nothing is left", x.text(), -100);
        Due.is(29, "a FAULT", Due.text(x, "fee ("), -105);
        Due.is(29, "used up by a FAULT", x.count(6), 0);
        Due.is(25, "the TEXT stays", x.fee(), 7);
        Due.is(29, "a FAULT late", Due.text(x, "fine !1+2+3)"), -111);
        Due.is(29, "a TEXT behind it", Due.text(x, "fee 9"), 1);
        Due.is(25, "nothing of the FAULT is in it", x.fee(), 9);
        Due.is(30, "nor in what it has", x.textTold(1, 1), 1);
        Due.is(29, "a FAULT at a word", Due.text(x, "fee fee"), -104);
        Due.is(29, "no word is ahead of the first one", Due.text(x, "fee 1"), 2);
    }

    private static void value(String e, int due) {
        GhostTrain x = new GhostTrain();
        x.car(0, 0, 1);
        Due.is(29, "number of fee " + e, Due.text(x, "fee " + e), 0);
        Due.is(25, "fee " + e, x.fee(), due);
        Due.is(29, "number of fine " + e, Due.text(x, "fine(" + e + ")"), 1);
        Due.is(26, "fine " + e, x.fine(0), due);
    }

    private static void values() {
        value("9999", 9999);
        value("0007", 7);
        value("2+3*4", 14);
        value("2*3+4", 10);
        value("(2+3)*4", 20);
        value("20-5-3", 12);
        value("20/5/2", 2);
        value("7/2*2", 6);
        value("0-7/2", -3);
        value("(0-7)/2", -3);
        value("7/(0-2)", -3);
        value("5/0", 0);
        value("3<4", 1);
        value("4<4", 0);
        value("4>3", 1);
        value("4>4", 0);
        value("4=4", 1);
        value("4=5", 0);
        value("1+1<1+2", 1);
        value("5&3", 1);
        value("5&0", 0);
        value("0&5", 0);
        value("5|3", 1);
        value("0|3", 1);
        value("0|0", 0);
        value("1|0&0", 1);
        value("0&0|1", 1);
        value("0&1|1&1", 1);
        value("2=2&3=3", 1);
        value("!0", 1);
        value("!7", 0);
        value("!!7", 1);
        value("!0+1", 2);
        value("!(0+1)", 0);
        value("!0*5", 5);
        value("(1<2)<2", 1);
        value("3-(1-1)-(0-4)", 7);
        value(" ( ( 6 ) ) ", 6);
        value("0-1|0", 1);
        value("(0-1)&(0-1)", 1);
    }

    private static void wraps() {
        value("9999*9999*9999", 9999 * 9999 * 9999);
        String least = "(0-8192*8192*32)";
        value(least, Integer.MIN_VALUE);
        value(least + "-1", Integer.MAX_VALUE);
        value(least + "/(0-1)", Integer.MIN_VALUE);
        value("0-1-(" + least + "-1+1)", Integer.MAX_VALUE);
    }

    private static void fee() {
        GhostTrain x = new GhostTrain();
        x.car(0, 19, 1);
        x.car(4, 119, 1);
        x.lays(1, 2, 9);
        x.lays(6, 2, 9);
        x.seconds(1);
        Due.is(25, "without a TEXT: SCREAMS of all", x.fee(), 6);
        x.seconds(2);
        Due.text(x, "fee s*100+t");
        Due.is(25, "s and t", x.fee(), 603);
    }

    private static void fine() {
        GhostTrain x = new GhostTrain();
        x.car(0, 19, 1);
        x.car(0, 119, 1);
        x.lays(1, 2, 9);
        x.seconds(1);
        x.set(0, 1, 19);
        x.seconds(1);
        x.set(0, 1, 19);
        x.seconds(1);
        Due.is(26, "without a TEXT: MISSED", x.fine(0), 2);
        Due.is(26, "MISSED of the other", x.fine(1), 0);
        Due.text(x, "fine f*100+m");
        Due.is(26, "f and m", x.fine(0), 2502);
        Due.is(26, "of the other", x.fine(1), 13700);
        Due.is(26, "car -1", x.fine(-1), BAD);
        Due.is(26, "car 2", x.fine(2), BAD);
    }

    private static void fault(String text, int place) {
        GhostTrain x = new GhostTrain();
        Due.is(29, "FAULT of '" + text + "'", Due.text(x, text), -100 - place);
        Due.is(29, "TEXTS behind '" + text + "'", x.count(4), 0);
    }

    private static void good(String text) {
        GhostTrain x = new GhostTrain();
        Due.is(29, "'" + text + "'", Due.text(x, text), 0);
    }

    private static void faultsOfKeys() {
        fault("   ", 3);
        fault("pac", 0);
        fault("  paces w", 2);
        fault("Pace w", 0);
        fault("7", 0);
        fault("fee", 3);
        fault("fee ", 4);
        fault("fines f", 0);
        fault("pacez", 0);
        fault("pacea", 0);
        fault("race w", 0);
        fault("gee s", 0);
        fault("line f", 0);
        fault("pack w", 0);
        fault("w", 0);
        fault("(fee 1)", 0);
        fault("fee fee 1", 4);
    }

    private static void faultsOfPieces() {
        for (String name : new String[] {"w", "r", "b"}) {
            good("pace " + name);
            fault("fee " + name, 4);
            fault("fine " + name, 5);
        }
        for (String name : new String[] {"s", "t"}) {
            fault("pace " + name, 5);
            good("fee " + name);
            fault("fine " + name, 5);
        }
        for (String name : new String[] {"f", "m"}) {
            fault("pace " + name, 5);
            fault("fee " + name, 4);
            good("fine " + name);
        }
        fault("pace ww", 5);
        fault("pace w+", 7);
        fault("pace w++1", 7);
        fault("pace -1", 5);
        fault("pace w)", 6);
        fault("pace (w", 7);
        fault("pace ()", 6);
        fault("pace (w))", 8);
        fault("pace w(1)", 6);
        fault("pace w!1", 6);
        fault("pace !", 6);
        fault("pace 1<2<3", 8);
        fault("pace 1<2=3", 8);
        good("pace 1<2&3<4|5>6&7=8");
        fault("pace (1<2<3)", 9);
        good("pace 1<(2<3)");
        good("pace (1<2)<3");
        fault("pace w%2", 6);
        fault("pace w,", 6);
        fault("pace w" + (char) 0, 6);
        fault("pace w" + (char) 255, 6);
        fault("pace w\t", 6);
        fault("pace |1", 5);
        fault("pace 1||1", 7);
        fault("pace 1 2", 7);
        fault("pace 1 w", 7);
        fault("pace 10000", 5);
        fault("pace 00000", 5);
        good("pace 9999");
        fault("pace A", 5);
        fault("pace w`", 6);
        fault("pace w{", 6);
        fault("pace w:", 6);
        fault("pace w/", 7);
    }

    private static void faultsOfBlanks() {
        fault("pace1", 4);
        fault("fee99", 3);
        good("pace 1");
        good("pace(1)");
        good("pace!1");
        good("  pace  (  w  )  ");
        good("fee\u0020s");
        fault("pace 1w", 6);
        fault("pace w1", 6);
        fault("pace w +  ", 10);
        fault("pace 1 1", 7);
    }

    private static void ninth() {
        good("pace " + "(".repeat(8) + "w" + ")".repeat(8));
        fault("pace " + "(".repeat(9) + "w" + ")".repeat(9), 13);
        good("pace " + "(".repeat(8) + "w" + ")".repeat(8) + "+" + "(".repeat(8) + "w" + ")".repeat(8));
        good("pace " + "!".repeat(8) + "w");
        fault("pace " + "!".repeat(9) + "w", 13);
        good("pace " + "!".repeat(8) + "w+" + "!".repeat(8) + "w");
        good("pace " + "!(".repeat(8) + "w" + ")".repeat(8));
        fault("pace " + "!(".repeat(8) + "!w" + ")".repeat(8), 21);
        fault("pace " + "!(".repeat(8) + "(w" + ")".repeat(9), 21);
        fault("pace " + "!!(".repeat(4) + "w+!1" + ")".repeat(4), 19);
        good("pace (" + "!(".repeat(7) + "w" + ")".repeat(7) + "+!!!!!!!!1)");
        fault("pace " + "(".repeat(8), 13);
    }

    private static void full() {
        GhostTrain x = new GhostTrain();
        for (int i = 0; i < 14; i++) {
            Due.is(29, "TEXT " + i, Due.text(x, "fee " + i), i);
        }
        Due.is(29, "a FAULT goes first", Due.text(x, "fee 1+"), -106);
        Due.is(29, "a fifteenth", Due.text(x, "fee 77"), GhostTrain.FULL);
        Due.is(29, "used up by FULL", x.count(6), 0);
        Due.is(25, "the last one counts", x.fee(), 13);
        Due.is(29, "TEXTS", x.count(4), 14);
    }

    private static void told() {
        GhostTrain x = new GhostTrain();
        Due.is(30, "none yet", x.textTold(0, 0), BAD);
        Due.text(x, "pace !(w+1)*(r|b)");
        Due.text(x, "fee 7");
        Due.text(x, "fine f+f+f&m");
        int[] operands = {4, 1, 4};
        for (int text = 0; text < 3; text++) {
            Due.is(30, "KEY of " + text, x.textTold(text, 0), text);
            Due.is(30, "NUMBERS and NAMES of " + text, x.textTold(text, 1), operands[text]);
        }
        Due.text(x, "fee (");
        Due.is(30, "text 3", x.textTold(3, 0), BAD);
        Due.is(30, "text -1", x.textTold(-1, 0), BAD);
        Due.is(30, "what 2", x.textTold(0, 2), BAD);
        Due.is(30, "what -1", x.textTold(0, -1), BAD);
    }

    private static void why() {
        GhostTrain x = new GhostTrain();
        Due.is(31, "none", x.why(2), GhostTrain.NONE);
        Due.text(x, "fine 1");
        Due.text(x, "fee 2");
        Due.text(x, "fine 3");
        Due.text(x, "fine 4 5");
        Due.is(31, "pace", x.why(0), GhostTrain.NONE);
        Due.is(31, "fee", x.why(1), 1);
        Due.is(31, "fine, told last", x.why(2), 2);
        Due.is(31, "-1", x.why(-1), BAD);
        GhostTrain y = new GhostTrain();
        Due.text(y, "fee 7");
        Due.is(31, "the first of all", y.why(1), 0);
        Due.is(31, "3", x.why(3), BAD);
        x.car(0, 0, 1);
        Due.is(31, "it counts", x.fine(0), 3);
    }
}
