/** Promises 13 to 15: seconds. */
final class SecondsTest {
    private static final int BAD = GhostTrain.BAD;

    public static void main(String[] args) {
        goesOn();
        pastTheLastFoot();
        screamsAndMisses();
        setAgain();
        loudByKinds();
        standsWhereTooNear();
        eachByWhereAllAreByThen();
        lastSecond();
        ride();
        lamps();
        Due.end();
    }

    private static void goesOn() {
        GhostTrain x = new GhostTrain();
        x.car(0, 17, 1);
        x.lays(1, 0, -4);
        Due.is(13, "no screams", x.seconds(1), 0);
        Due.is(13, "by PACE of the part in which it was", x.told(0, 1), 23);
        x.seconds(1);
        Due.is(13, "by PACE of the next part", x.told(0, 1), 33);
        Due.is(13, "THE SECOND", x.count(1), 2);
        Due.is(13, "0", x.seconds(0), BAD);
        Due.is(13, "301", x.seconds(301), BAD);
        Due.is(13, "-1", x.seconds(-1), BAD);
        Due.is(13, "THE SECOND stays", x.count(1), 2);
        x.seconds(300);
        Due.is(13, "300 of them", x.count(1), 302);
    }

    private static void pastTheLastFoot() {
        GhostTrain x = new GhostTrain();
        x.car(0, 233, 1);
        x.lays(0, 2, 9);
        x.lays(11, 2, 9);
        Due.is(13, "up to foot 239, no part entered", x.seconds(1), 0);
        Due.is(13, "ROUNDS yet", x.told(0, 6), 0);
        Due.is(13, "on foot 239", x.told(0, 1), 239);
        Due.is(13, "part 0 entered", x.seconds(1), 2);
        Due.is(13, "ROUNDS", x.told(0, 6), 1);
        Due.is(13, "on foot 5", x.told(0, 1), 5);
        x.set(0, 1, 234);
        x.seconds(1);
        Due.is(13, "to foot 240, which is 0", x.told(0, 1), 0);
        Due.is(13, "ROUNDS again", x.told(0, 6), 2);
        Due.is(13, "MISSED there", x.told(0, 4), 1);
    }

    private static void screamsAndMisses() {
        GhostTrain x = new GhostTrain();
        x.gap(1);
        x.car(0, 15, 1);
        x.car(4, 19, 60);
        x.lays(1, 2, 5);
        x.set(0, 1, 14);
        Due.is(13, "both enter, the first by number screams", x.seconds(1), 0 + 4);
        Due.is(13, "SET is SCARE", x.part(1, 3), 5);
        Due.is(13, "car 0 had no room to enter: it is behind", x.told(0, 1), 18);
        Due.is(13, "no screams, it is not set", x.seconds(1), 0);
        Due.is(13, "MISSED of car 0", x.told(0, 4), 1);
        Due.is(13, "SCREAMS of car 0", x.told(0, 3), 0);
        Due.is(13, "SCREAMS of car 1", x.told(1, 3), 4);
        Due.is(13, "SET is 1 less", x.part(1, 3), 4);
        x.seconds(3);
        Due.is(13, "SET", x.part(1, 3), 1);
        x.seconds(2);
        Due.is(13, "SET stays 0", x.part(1, 3), 0);
    }

    private static void setAgain() {
        GhostTrain x = new GhostTrain();
        x.car(0, 19, 1);
        x.lays(1, 2, 1);
        Due.is(13, "it screams", x.seconds(1), 2);
        Due.is(13, "SET", x.part(1, 3), 1);
        x.set(0, 1, 19);
        Due.is(13, "SET is less ahead of the cars: it screams again", x.seconds(1), 2);
        x.lays(1, 2, 2);
        x.set(0, 1, 19);
        Due.is(13, "set at once when laid", x.seconds(1), 2);
        x.set(0, 1, 19);
        Due.is(13, "not yet", x.seconds(1), 0);
        Due.is(13, "MISSED", x.told(0, 4), 1);
        for (int part = 0; part < 12; part++) {
            GhostTrain y = new GhostTrain();
            y.car(0, (20 * part + 239) % 240, 1);
            y.lays(part, 2, 9);
            y.seconds(3);
            Due.is(13, "SET of part " + part + " is less", y.part(part, 3), 7);
        }
        x.set(0, 1, 20);
        x.lays(1, 2, 2);
        Due.is(13, "to be in it is not to enter it", x.seconds(1), 0);
        Due.is(13, "MISSED still", x.told(0, 4), 1);
    }

    private static void loudByKinds() {
        int[] loud = {2, 1, 3, 1, 4, 0};
        for (int kind = 0; kind < 6; kind++) {
            GhostTrain x = new GhostTrain();
            x.car(kind, 19, 50);
            x.lays(1, 2, 7);
            Due.is(13, "kind " + kind + " screams", x.seconds(1), loud[kind]);
            Due.is(13, "it is not set then, kind " + kind, x.part(1, 3), 7);
        }
    }

    private static void standsWhereTooNear() {
        GhostTrain x = new GhostTrain();
        x.car(0, 100, 1);
        x.car(4, 113, 1);
        x.seconds(1);
        Due.is(13, "by ROOM at most", x.told(0, 1), 103);
        Due.is(13, "the one ahead", x.told(1, 1), 116);
        x.set(1, 1, 113);
        x.seconds(1);
        Due.is(13, "no room: it stands", x.told(0, 1), 103);
        Due.is(13, "STOOD", x.told(0, 5), 1);
        x.set(1, 1, 105);
        x.seconds(1);
        Due.is(13, "room below 0: it stands", x.told(0, 1), 103);
        Due.is(13, "STOOD again", x.told(0, 5), 2);
        Due.is(13, "STOOD of the other", x.told(1, 5), 0);
    }

    private static void eachByWhereAllAreByThen() {
        GhostTrain x = new GhostTrain();
        x.car(0, 50, 1);
        x.car(0, 40, 1);
        x.seconds(1);
        Due.is(13, "car 0 is on by then, so car 1 goes", x.told(1, 1), 46);
        GhostTrain y = new GhostTrain();
        y.car(0, 40, 1);
        y.car(0, 50, 1);
        y.seconds(1);
        Due.is(13, "car 1 is not on yet, so car 0 stands", y.told(0, 1), 40);
        Due.is(13, "car 1 goes", y.told(1, 1), 56);
        Due.is(13, "STOOD of car 0", y.told(0, 5), 1);
    }

    private static void lastSecond() {
        GhostTrain x = new GhostTrain();
        x.car(5, 0, 1);
        for (int i = 0; i < 33; i++) {
            x.seconds(300);
        }
        x.seconds(98);
        Due.is(13, "one is left", x.count(1), 9998);
        int foot = x.told(0, 1);
        x.seconds(300);
        Due.is(13, "the last", x.count(1), 9999);
        Due.is(13, "it went on by one second", x.told(0, 1), (foot + 7) % 240);
        Due.is(13, "no more", x.seconds(1), 0);
        Due.is(13, "THE SECOND stays", x.count(1), 9999);
        Due.is(13, "all of the way", x.told(0, 6) * 240 + x.told(0, 1), 9999 * 7);
        Due.is(16, "what will be has no such bound", x.behind(1, 4), (foot + 14) % 240);
    }

    private static void ride() {
        GhostTrain x = new GhostTrain();
        x.car(0, 19, 1);
        x.car(2, 239, 1);
        x.car(1, 239, 1);
        x.lays(0, 2, 9);
        x.lays(1, 2, 9);
        x.seconds(1);
        Due.is(14, "SCREAMS", x.ride(0), 2 + 1);
        Due.is(14, "MISSED", x.ride(1), 0);
        Due.is(14, "STOOD: car 1 is on the foot of car 2", x.ride(2), 1);
        Due.is(14, "ROUNDS", x.ride(3), 1);
        Due.is(14, "FEET", x.ride(4), 25 + 239 + 5);
        Due.is(14, "NEAR", x.ride(5), 1);
        x.seconds(1);
        Due.is(14, "ROUNDS then", x.ride(3), 1);
        Due.is(14, "what -1", x.ride(-1), BAD);
        Due.is(14, "what 6", x.ride(6), BAD);
        x.set(1, 1, 0);
        x.set(2, 1, 9);
        x.set(0, 1, 19);
        Due.is(14, "ROOM 0 is not NEAR, -1 is", x.ride(5), 1);
        x.gap(11);
        Due.is(14, "both are NEAR", x.ride(5), 2);
        GhostTrain y = new GhostTrain();
        y.car(0, 5, 1);
        Due.is(14, "one alone is not NEAR", y.ride(5), 0);
        y.car(0, 100, 1);
        Due.is(14, "none is", y.ride(5), 0);
        y.set(1, 1, 5);
        Due.is(14, "car 0 is NEAR", y.ride(5), 1);
    }

    private static void lamps() {
        GhostTrain x = new GhostTrain();
        x.car(0, 19, 1);
        x.car(0, 20, 1);
        x.car(0, 39, 1);
        x.car(0, 239, 1);
        Due.is(15, "parts 0, 1, 11", x.lamps(), 1 + 2 + 2048);
    }
}
