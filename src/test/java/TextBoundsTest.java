/** The bounds that promises 25 to 31 and term 4 name: fee, fine, THE TAPE, TEXTS. */
final class TextBoundsTest extends Bounds {
    private static final String[] KEYS = {"pace", "fee", "fine"};

    public static void main(String[] args) throws Exception {
        holdAll(TextBoundsTest.class);
    }

    /** On a new object the text is refused at this place, THE TAPE is used up, and there is no TEXT. */
    private static void fault(int place, String text) {
        GhostTrain x = new GhostTrain();
        is("text() of '" + text + "'", Due.text(x, text), -100 - place);
        are("bytes and TEXTS behind '" + text + "'", new int[] {x.count(6), x.count(4)}, 0, 0);
    }

    private static void good(String text) {
        GhostTrain x = new GhostTrain();
        is("text() of '" + text + "'", Due.text(x, text), 0);
        are("bytes and TEXTS behind '" + text + "'", new int[] {x.count(6), x.count(4)}, 0, 1);
    }

    private static void gives(int due, String e) {
        GhostTrain x = new GhostTrain();
        Due.text(x, "fee " + e);
        is("fee() by " + e, x.fee(), due);
    }

    // ---- what is told by the TEXTS

    @Says({"What fee gives.", "what fee gives is told by fee(); without a TEXT: SCREAMS of all"})
    static void promise25WithAndWithoutAText() {
        GhostTrain x = new GhostTrain();
        is("no cars", x.fee(), 0);
        Due.text(x, "fine 9");
        Due.text(x, "pace 6");
        x.car(0, 19, 1);
        x.car(4, 119, 40);
        x.lays(1, 2, 9);
        x.lays(6, 2, 9);
        x.seconds(1);
        is("without a TEXT of that KEY", x.fee(), 6);
        Due.text(x, "fee 0-s");
        is("with one", x.fee(), -6);
        Due.text(x, "fee t");
        x.seconds(1);
        is("THE SECOND", x.fee(), 2);
    }

    @Says({"What fine gives for a CAR. BAD.", "what fine gives for a CAR is told by fine(); without a TEXT: MISSED"})
    static void promise26Bad() {
        range(BUSY, "car of fine", 0, 2, BAD, (x, v) -> x.fine(v));
        range(CRAMMED, "car of fine", 0, 7, BAD, (x, v) -> x.fine(v));
        refuses(NEW, "fine(0)", BAD, x -> x.fine(0));
        GhostTrain x = new GhostTrain();
        x.car(0, 19, 1);
        x.car(0, 100, 1);
        x.lays(1, 2, 9);
        x.seconds(1);
        x.set(0, 1, 19);
        x.seconds(1);
        Due.text(x, "fee 7");
        are("without a TEXT of that KEY", new int[] {x.fine(0), x.fine(1)}, 1, 0);
        Due.text(x, "fine m*1000+f");
        are("with one", new int[] {x.fine(0), x.fine(1)}, 1025, 112);
    }

    // ---- THE TAPE

    @Says({"Twelve bytes come to THE TAPE, the highest of each number first: how many it has. FULL: it would have more "
            + "than 96.", "THE TAPE (96 bytes at most"})
    static void promise27Full() {
        int[] bytesAndDue = {0, 12, 83, 95, 84, 96, 85, FULL, 95, FULL, 96, FULL};
        for (int i = 0; i < bytesAndDue.length; i += 2) {
            int bytes = bytesAndDue[i];
            Made made = () -> {
                GhostTrain x = new GhostTrain();
                Due.tape(x, "fee 7" + " ".repeat(Math.max(0, bytes - 5)));
                x.trim(bytes);
                return x;
            };
            is("feed behind " + bytes + " bytes", made.make().feed(0, 0, 0), bytesAndDue[i + 1]);
            if (bytesAndDue[i + 1] == FULL) {
                refuses(made, "feed behind " + bytes + " bytes", FULL, x -> x.feed(0, 0, 0));
            }
        }
        refuses(CRAMMED, "feed", FULL, x -> x.feed(LEAST_INT, -1, MOST_INT));
    }

    @Says("Twelve bytes come to THE TAPE, the highest of each number first")
    static void promise27HighestFirst() {
        GhostTrain x = new GhostTrain();
        is("feed", x.feed(0x66656520, 0x31323334, 0x2b313030), 12);
        is("text", x.text(), 0);
        is("fee 1234+100", x.fee(), 1334);
        x.feed(0x66656520, 0x310000ff, 0x80000000);
        is("no byte is a sign of the next number", x.text(), -105);
        x.feed(0x66656520, 0x310000ff, 0x80000000);
        x.trim(5);
        is("the fifth byte", x.text(), 1);
        is("fee 1", x.fee(), 1);
        x.feed(0x66656520, 0xb1202020, 0x20202020);
        is("a byte above 127", x.text(), -104);
    }

    @Says("THE TAPE keeps its first n bytes: n. BAD.")
    static void promise28Bad() {
        range(BUSY, "trim of twelve bytes", 0, 12, BAD, (x, v) -> x.trim(v));
        range(CRAMMED, "trim of 96 bytes", 0, 96, BAD, (x, v) -> x.trim(v));
        range(NEW, "trim of none", 0, 0, BAD, (x, v) -> x.trim(v));
        GhostTrain x = new GhostTrain();
        Due.tape(x, "fee 12345678");
        are("trim", new int[] {x.trim(12), x.trim(8), x.trim(9), x.trim(8), x.count(6)}, 12, 8, BAD, 8, 8);
        is("its first eight bytes", x.text(), 0);
        is("fee 1234", x.fee(), 1234);
        is("trim of what is used up", x.trim(1), BAD);
    }

    @Says("an act that reads it uses it up, whatever it answers")
    static void term4UsedUp() {
        for (int refused = 0; refused < 3; refused++) {
            GhostTrain x = refused == 2 ? crammed() : new GhostTrain();
            int due = refused == 0 ? 0 : refused == 1 ? -106 : FULL;
            x.trim(0);
            Due.tape(x, refused == 1 ? "fee 7+" : "fee 7");
            is("text()", x.text(), due);
            is("bytes", x.count(6), 0);
            is("trim(1)", x.trim(1), BAD);
            is("text() of nothing", x.text(), -100);
            is("the first bytes that come then", x.feed(0x66656520, 0x20202020, 0x20202020), 12);
        }
    }

    @Says("an act that reads it uses it up, whatever it answers")
    static void term4NothingIsLeft() {
        String[] faults = {"", "fee", "fee fee", "fee 12345", "fee !1+2+3)", "fee ((((((((", "fee 1 2", "fee s 1", "pace w", "fe",
            "fee 1+1+1+1+1+1&"};
        for (String fault : faults) {
            GhostTrain x = new GhostTrain();
            Due.text(x, fault);
            int text = Due.text(x, "fee 9");
            are("a TEXT behind '" + fault + "'", new int[] {text, x.fee(), x.textTold(text, 0), x.textTold(text, 1)},
                    fault.startsWith("pace") ? 1 : 0, 9, 1, 1);
            is("one more that begins with a FAULT", Due.text(x, "9 fee"), -100);
        }
    }

    // ---- reading

    @Says({"THE TAPE is a TEXT: its number. -100 less the place of its FAULT; FULL.", "TEXTS, 14 at most, numbered from 0"})
    static void promise29Full() {
        GhostTrain x = new GhostTrain();
        for (int text = 0; text < 14; text++) {
            is("a FAULT takes no number", Due.text(x, "fee"), -103);
            is("TEXT", Due.text(x, KEYS[text % 3] + " " + text), text);
            is("TEXTS", x.count(4), text + 1);
        }
        is("a fifteenth", Due.text(x, "fee 99"), FULL);
        is("a FAULT goes ahead of FULL", Due.text(x, "fee 99)"), -106);
        are("TEXTS as they were", new int[] {x.count(4), x.fee(), x.why(0), x.why(1), x.why(2)}, 14, 13, 12, 13, 11);
    }

    @Says("THE TAPE is a TEXT: its number. -100 less the place of its FAULT")
    static void promise29PlacesFrom0To96() {
        fault(0, "");
        fault(0, "x");
        fault(1, " x");
        fault(95, "fee 1" + " ".repeat(90) + "x");
        fault(96, "fee 1+" + " ".repeat(90));
        fault(96, " ".repeat(96));
        good("fee 1" + " ".repeat(91));
        good(" ".repeat(91) + "fee 1");
        good("fee 1" + "+1".repeat(45) + " ");
        is("all 96 bytes are read", feeOf("fee 12" + "+1".repeat(45)), 57);
        is("the deepest of all", feeOf("fee " + "!!(".repeat(4) + "(((9-(0-1)" + ")".repeat(7)), 1);
    }

    private static int feeOf(String text) {
        GhostTrain x = new GhostTrain();
        is("text() of '" + text + "'", Due.text(x, text), 0);
        return x.fee();
    }

    @Says("Of a TEXT: what 0 KEY (0 pace, 1 fee, 2 fine), 1 how many NUMBERS and NAMES it has. BAD.")
    static void promise30Bad() {
        range(BUSY, "text of textTold", 0, 2, BAD, (x, v) -> x.textTold(v, 0));
        range(CRAMMED, "text of textTold", 0, 13, BAD, (x, v) -> x.textTold(v, 1));
        range(BUSY, "what of textTold", 0, 1, BAD, (x, v) -> x.textTold(0, v));
        refuses(NEW, "textTold(0, 0)", BAD, x -> x.textTold(0, 0));
        for (int key = 0; key < 3; key++) {
            GhostTrain x = new GhostTrain();
            Due.text(x, KEYS[key] + " 1");
            Due.text(x, KEYS[key] + " !(7)+" + "wsf".charAt(key) + "*0");
            are("textTold", new int[] {x.textTold(0, 0), x.textTold(0, 1), x.textTold(1, 0), x.textTold(1, 1)}, key, 1, key, 3);
        }
    }

    @Says("1 how many NUMBERS and NAMES it has.")
    static void promise30FromOneTo46() {
        GhostTrain x = new GhostTrain();
        for (int more : new int[] {0, 1, 44, 45}) {
            int text = Due.text(x, "fee s" + "|1".repeat(more));
            is("NUMBERS and NAMES", x.textTold(text, 1), 1 + more);
        }
    }

    @Says("The TEXT that counts for a KEY. BAD; NONE.")
    static void promise31Bad() {
        range(BUSY, "why", 0, 2, BAD, (x, v) -> x.why(v));
        for (int key = 0; key < 3; key++) {
            int asked = key;
            refuses(NEW, "why(" + key + ")", NONE, x -> x.why(asked));
            GhostTrain x = new GhostTrain();
            Due.text(x, KEYS[key] + " 1");
            for (int other = 0; other < 3; other++) {
                is("why(" + other + ")", x.why(other), other == key ? 0 : NONE);
            }
        }
        refuses(NEW, "why(-1)", BAD, x -> x.why(-1));
        refuses(NEW, "why(3)", BAD, x -> x.why(3));
    }

    @Says("Of a KEY that TEXT counts that was told last.")
    static void term4ToldLast() {
        GhostTrain x = new GhostTrain();
        x.car(0, 5, 1);
        Due.text(x, "fine 1");
        Due.text(x, "fee 1");
        Due.text(x, "fine 2");
        are("the last of each", new int[] {x.why(0), x.why(1), x.why(2), x.fee(), x.fine(0)}, NONE, 1, 2, 1, 2);
        Due.text(x, "fine 3+");
        are("a FAULT does not count", new int[] {x.why(2), x.fine(0)}, 2, 2);
        Due.text(x, "pace 9");
        Due.text(x, "pace 8");
        are("pace", new int[] {x.why(0), x.pace(0, 0), x.why(2)}, 4, 8, 2);
        for (int key = 0; key < 3; key++) {
            GhostTrain y = new GhostTrain();
            y.car(0, 5, 1);
            is("the first of all", Due.text(y, KEYS[key] + " 19"), 0);
            are("what it gives", new int[] {y.pace(0, 0), y.fee(), y.fine(0)}, key == 0 ? 19 : 6, key == 1 ? 19 : 0,
                    key == 2 ? 19 : 0);
        }
    }

    // ---- the words

    @Says("KEY: pace | fee | fine.")
    static void term4Key() {
        good("pace 1");
        good("fee 1");
        good("fine 1");
        for (String no : new String[] {"pac", "pacee", "fe", "feee", "fin", "finee", "Fee", "f", "w", "1", "(", "e", "fees",
            "feez", "feea", "gee", "fae", "fef", "race", "pbce", "paae", "pacf", "line", "fane", "fiee", "find"}) {
            fault(0, no + " 1");
            fault(2, "  " + no + " 1");
        }
        fault(4, "fee fee 1");
        fault(4, "fee fine");
        fault(3, "fee");
        fault(6, "fee   ");
    }

    @Says("E, the loosest first: OR: AND { | AND }; AND: TEST { & TEST }; TEST: SUM [ (< | = | >) SUM ]; SUM: TERM { (+ | -) "
            + "TERM }; TERM: PIECE { (* | /) PIECE }; PIECE: NUMBER (1 to 4 digits) | NAME | ! PIECE | ( E ).")
    static void term4LoosestFirst() {
        gives(1, "1|1&0");
        gives(1, "0&0|1");
        gives(0, "0&1<2");
        gives(1, "1<2&3");
        gives(1, "3=1+2");
        gives(1, "1+2=3");
        gives(7, "1+2*3");
        gives(5, "2*3-1");
        gives(3, "!0*3");
        gives(1, "!0|0");
        gives(0, "!(0|1)");
        gives(9, "(1+2)*3");
        gives(2, "9-4-3");
        gives(8, "9-(4-3)");
        gives(1, "9/3/3");
        gives(9, "9/(3/3)");
        gives(6, "9/6*6");
        gives(1, "9*6/54");
    }

    @Says("TEST: SUM [ (< | = | >) SUM ]")
    static void term4OneTestAtMost() {
        good("fee 1");
        good("fee 1<2");
        fault(7, "fee 1<2<3");
        fault(7, "fee 1=2>3");
        fault(7, "fee 1>2=3");
        good("fee (1<2)<3");
        good("fee 1<(2<3)");
        good("fee 1<2&2<3|3=4&4>5");
        fault(6, "fee 1<");
        fault(4, "fee <1");
        fault(6, "fee 1<=2");
    }

    @Says("OR: AND { | AND }; AND: TEST { & TEST }")
    static void term4AnyRowOfOperators() {
        for (char sign : "|&+-*/".toCharArray()) {
            good("fee 1" + (sign + "1").repeat(45));
            fault(6, "fee 1" + sign);
            fault(6, "fee 1" + sign + sign + "1");
            fault(4, "fee " + sign + "1");
            fault(5, "fee (" + sign + "1)");
        }
    }

    @Says("NUMBER (1 to 4 digits)")
    static void term4Number() {
        gives(0, "0");
        gives(7, "7");
        gives(999, "999");
        gives(1000, "1000");
        gives(9999, "9999");
        gives(9, "0009");
        fault(4, "fee 10000");
        fault(4, "fee 00000");
        fault(6, "fee 1+12345");
        fault(4, "fee " + "9".repeat(92));
    }

    @Says("NAMES, each one letter: of pace w WEIGHT, r RISE, b BRAKE; of fee s SCREAMS of all, t THE SECOND")
    static void term4Names() {
        String[] names = {"wrb", "st", "fm"};
        for (int key = 0; key < 3; key++) {
            for (char name = 'a'; name <= 'z'; name++) {
                if (names[key].indexOf(name) >= 0) {
                    good(KEYS[key] + " " + name);
                } else {
                    fault(KEYS[key].length() + 1, KEYS[key] + " " + name);
                }
            }
            char first = names[key].charAt(0);
            char second = names[key].charAt(1);
            fault(KEYS[key].length() + 1, KEYS[key] + " " + first + first);
            fault(KEYS[key].length() + 1, KEYS[key] + " " + first + second);
            fault(KEYS[key].length() + 1, KEYS[key] + " " + Character.toUpperCase(first));
        }
    }

    @Says("of pace w WEIGHT, r RISE, b BRAKE; of fee s SCREAMS of all, t THE SECOND")
    static void term4NamesOfPaceGive() {
        GhostTrain x = new GhostTrain();
        x.car(0, 0, 14);
        x.car(0, 0, 15);
        x.lays(3, 0, -7);
        x.lays(3, 1, 6);
        x.lays(4, 0, 5);
        Due.text(x, "pace w");
        are("w of each car", new int[] {x.pace(0, 3), x.pace(1, 3)}, 14, 15);
        Due.text(x, "pace 10+r");
        are("r of each part", new int[] {x.pace(0, 3), x.pace(0, 4), x.pace(0, 5)}, 3, 15, 10);
        Due.text(x, "pace 10-b");
        are("b of each part", new int[] {x.pace(0, 3), x.pace(0, 4)}, 4, 10);
    }

    @Says("A word is a row of letters a .. z, or of digits, as long as it goes; any other byte is a sign by itself.")
    static void term4Words() {
        for (char other : new char[] {'a' - 1, 'z' + 1, '9' + 1, 'A', 'Z', '_', 0, 9, 10, 31, 34, 127, 128, 160, 255}) {
            fault(5, "fee s" + other);
            fault(4, "fee " + other);
            fault(3, "fee" + other);
        }
        fault(6, "fee s/");
        fault(3, "fee/");
        fault(4, "fee az");
        fault(5, "fee s0");
        fault(5, "fee s9");
        fault(5, "fee 0a");
        fault(5, "fee 9z");
        good("fee s+s");
        good("fee((s))");
        good("fee!!s");
    }

    @Says("Between words and signs, and at the ends, there may be blanks (byte 32); a word right behind another one needs one.")
    static void term4Blanks() {
        good("fee 1");
        good("fee     1");
        good("   fee 1   ");
        good(" fee ( ! s ) + 2 ");
        good("fee(!s)+2");
        fault(3, "fee1");
        fault(0, "fees");
        fault(5, "fee 1s");
        fault(5, "fee s1");
        fault(6, "fee 1 s");
        fault(6, "fee s 1");
        fault(6, "fee 1 2");
        fault(4, "fee 12345");
        fault(3, "fee\t1");
    }

    @Says("FAULT: the first byte of the first word or sign with which no TEXT goes on")
    static void term4FaultAtItsFirstByte() {
        fault(5, "fee 1)");
        fault(7, "fee (1))");
        fault(5, "fee 1(2)");
        fault(5, "fee 1!2");
        fault(5, "fee ()");
        fault(7, "fee 1  fine 1");
        fault(8, "fee 1 + pace");
        fault(6, "fee 1+)");
        fault(5, "fee !)");
        fault(5, "fee 1;fee 2+");
    }

    @Says("the end (the place behind the last byte), if it comes too soon.")
    static void term4TheEnd() {
        fault(0, "");
        fault(2, "  ");
        fault(3, "fee");
        fault(5, "fee  ");
        fault(5, "fee (");
        fault(6, "fee (1");
        fault(8, "fee (1  ");
        fault(5, "fee !");
        fault(9, "fee 1 +  ");
        good("fee 1");
        good("fee 1 ");
    }

    @Says("the ninth ( that would be open within others, the ninth ! likewise, each by itself")
    static void term4Ninth() {
        for (int many = 7; many <= 10; many++) {
            String open = "(".repeat(many);
            String shut = ")".repeat(many);
            String not = "!".repeat(many);
            if (many <= 8) {
                good("fee " + open + "1" + shut);
                good("fee " + not + "1");
                good("fee " + open + not + "1" + shut);
                good("fee " + not + open + "1" + shut);
                good("fee " + open + "1" + shut + "+" + open + "1" + shut);
                good("fee " + not + "1+" + not + "1");
            } else {
                fault(12, "fee " + open + "1" + shut);
                fault(12, "fee " + not + "1");
                fault(12, "fee " + open);
                fault(12, "fee " + not);
            }
        }
        fault(20, "fee " + "(".repeat(8) + "!".repeat(8) + "(1" + ")".repeat(9));
        fault(20, "fee " + "(".repeat(8) + "!".repeat(9) + "1" + ")".repeat(8));
    }

    @Says("Ints wrap")
    static void term4IntsWrap() {
        String least = "(0-8192*8192*32)";
        gives(LEAST_INT, least);
        gives(LEAST_INT + 1, least + "+1");
        gives(MOST_INT, least + "-1");
        gives(MOST_INT - 1, least + "-2");
        gives(LEAST_INT, least + "-1+1");
        gives(LEAST_INT, least + "*(0-1)");
        gives(LEAST_INT, least + "/(0-1)");
        gives(0, least + "*2");
        gives(1, least + "<0");
        gives(1, least + "<1");
        gives(1, "1>" + least);
        gives(0, "1<" + least);
        gives(0, least + ">1");
        gives(1, least + "-1>0");
    }

    @Says("/ is 0 by 0; tests, & | ! give 1 or 0 (what is not 0 is true; both sides are worked out).")
    static void term4OneOr0() {
        gives(0, "7/0");
        gives(0, "0/0");
        gives(7, "7/1");
        gives(1, "7/0=0");
        for (int v : new int[] {-2, -1, 0, 1, 2}) {
            String told = v < 0 ? "(0-" + -v + ")" : "" + v;
            int isTrue = v == 0 ? 0 : 1;
            gives(1 - isTrue, "!" + told);
            gives(isTrue, "!!" + told);
            gives(isTrue, told + "&5");
            gives(isTrue, "5&" + told);
            gives(isTrue, told + "|0");
            gives(isTrue, "0|" + told);
            gives(0, told + "&0");
            gives(0, "0&" + told);
            gives(1, told + "|5");
            gives(1, "5|" + told);
            gives(v < 0 ? 1 : 0, told + "<0");
            gives(v == 0 ? 1 : 0, told + "=0");
            gives(v > 0 ? 1 : 0, told + ">0");
        }
        gives(1, "1|7/0");
        gives(0, "0&7/0");
    }

    @Says("/ cuts towards 0.")
    static void term0CutsTowards0() {
        gives(3, "7/2");
        gives(-3, "(0-7)/2");
        gives(-3, "7/(0-2)");
        gives(3, "(0-7)/(0-2)");
        gives(0, "1/2");
        gives(0, "(0-1)/2");
        gives(-1, "(0-2)/2");
        gives(1, "2/2");
    }
}
