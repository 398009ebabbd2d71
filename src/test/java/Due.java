/** What the tests share: telling every answer that is not the due one, and bringing texts onto THE TAPE. */
final class Due {
    private static int right = 0;
    private static int wrong = 0;

    private Due() {
    }

    static void is(int promise, String what, long got, long want) {
        is("promise " + promise, what, got, want);
    }

    static void is(String where, String what, long got, long want) {
        if (got == want) {
            right++;
        } else {
            wrong++;
            System.out.println(where + ": " + what + " answered " + got + ", due is " + want);
        }
    }

    static void holds(String what, boolean holds) {
        if (holds) {
            right++;
        } else {
            wrong++;
            System.out.println(what);
        }
    }

    static int wrongs() {
        return wrong;
    }

    static int answers() {
        return right + wrong;
    }

    /** THE TAPE has to be empty ahead of it. */
    static void tape(GhostTrain x, String text) {
        for (int i = 0; i < text.length(); i += 12) {
            x.feed(fourBytes(text, i), fourBytes(text, i + 4), fourBytes(text, i + 8));
        }
        x.trim(text.length());
    }

    static int text(GhostTrain x, String text) {
        tape(x, text);
        return x.text();
    }

    static int fourBytes(String text, int from) {
        int four = 0;
        for (int i = from; i < from + 4; i++) {
            four = four << 8 | (i < text.length() ? text.charAt(i) & 255 : ' ');
        }
        return four;
    }

    /** All of cars and parts, and the counts, as they are told. */
    static String all(GhostTrain x) {
        StringBuilder all = new StringBuilder();
        for (int car = 0; car < 8; car++) {
            for (int what = 0; what < 11; what++) {
                all.append(x.told(car, what)).append(' ');
            }
        }
        for (int part = 0; part < 12; part++) {
            for (int what = 0; what < 4; what++) {
                all.append(x.part(part, what)).append(' ');
            }
        }
        for (int what = 0; what < 8; what++) {
            all.append(x.count(what)).append(' ');
        }
        return all.toString();
    }

    static void end() {
        System.out.println(wrong == 0 ? right + " answers are as due" : wrong + " answers are not as due");
        if (wrong != 0) {
            System.exit(1);
        }
    }
}
