/** The edges of promises 14 to 17 and of what the document says of GATES, sentence by sentence. */
final class GatesEdgesTest {
    private static final Due due = new Due();
    private static final int BAD = SeaGates.BAD, NONE = SeaGates.NONE, FULL = SeaGates.FULL;
    private static final int MIN = Integer.MIN_VALUE, MAX = Integer.MAX_VALUE;
    private static final int TIME = 0, WORST = 1;

    public static void main(String[] args) {
        numbers();
        minutes();
        byHand();
        gateRefusals();
        failAndMend();
        timeRefusals();
        withoutGates();
        soundAtOnce();
        crews();
        leastCrew();
        cannotBeShut();
        slowCannotBeShut();
        worst();
        worstNone();
        greatestTime();
        due.end();
    }

    private static Sentence of(String words) {
        return new Sentence(due, words);
    }

    private static void numbers() {
        Sentence s = of("GATES 0 .. 5 (6 at most)");
        for (int gate = 0; gate < 6; gate++) {
            s.is(BAD, "fail", gate).is(BAD, "mend", gate).is(BAD, "kind", gate).is(BAD, "as", gate, 0).is(BAD, "ask", gate, 0);
            s.is(gate, "gate", 10 + gate, 0).is(gate + 1, "count", 3).is(0, "mend", gate).is(10 + gate, "as", gate, 0).is(0, "kind", gate);
        }
        for (int gate : new int[] {MIN, -1, 6, MAX}) {
            s.is(BAD, "fail", gate).is(BAD, "mend", gate).is(BAD, "kind", gate).is(BAD, "as", gate, 0).is(BAD, "ask", gate, 0);
        }
        s.is(FULL, "gate", 10, 0).is(FULL, "gate", 500, 2000).is(6, "count", 3).is(15, "time", 1, TIME).is(BAD, "kind", 6);
    }

    private static void minutes() {
        of("minutes to shut, 1 to 500").is(BAD, "gate", 0, 0).is(BAD, "gate", 501, 0).is(BAD, "gate", -1, 0).is(BAD, "gate", MIN, 0)
            .is(BAD, "gate", MAX, 0).is(0, "count", 3).is(0, "gate", 1, 0).is(1, "as", 0, 0).is(1, "gate", 500, 0).is(500, "as", 1, 0)
            .is(2, "count", 3);
    }

    private static void byHand() {
        of("by hand, 0 (it cannot be) to 2000").is(BAD, "gate", 1, -1).is(BAD, "gate", 1, 2001).is(BAD, "gate", 1, MIN).is(BAD, "gate", 1, MAX)
            .is(BAD, "gate", 0, 2001).is(0, "count", 3)
            .is(0, "gate", 1, 2000).with("fail", 0).is(2000, "time", 1, TIME)
            .is(1, "gate", 1, 1).with("fail", 1).is(2001, "time", 1, TIME)
            .is(2, "gate", 1, 0).is(2001, "time", 1, TIME).with("fail", 2).is(NONE, "time", 1, TIME);
    }

    private static void gateRefusals() {
        Sentence s = of("A GATE: its number; it is sound. BAD: minutes; FULL: 6.");
        for (int gate = 0; gate < 6; gate++) {
            s.is(gate, "gate", 1, 1).is(0, "count", 4).is(0, "mend", gate);
        }
        s.is(BAD, "gate", 0, 1).is(BAD, "gate", 501, 1).is(BAD, "gate", 1, -1).is(BAD, "gate", 1, 2001).is(FULL, "gate", 1, 1);
    }

    private static void failAndMend() {
        of("A GATE FAILS: 1; 0: it was FAILED. BAD.").is(BAD, "fail", 0).with("gate", 1, 1).with("gate", 1, 1)
            .is(1, "fail", 1).is(1, "count", 4).is(0, "fail", 1).is(1, "count", 4).is(BAD, "fail", 2).is(BAD, "fail", -1).is(1, "count", 4)
            .is(1, "fail", 0).is(2, "count", 4).is(0, "fail", 0);
        of("A GATE is sound: 1; 0: it was. BAD.").is(BAD, "mend", 0).with("gate", 1, 1).with("gate", 1, 1)
            .is(0, "mend", 1).with("fail", 1).with("fail", 0).is(BAD, "mend", 2).is(BAD, "mend", -1).is(2, "count", 4)
            .is(1, "mend", 1).is(1, "count", 4).is(0, "mend", 1).is(1, "mend", 0).is(0, "count", 4).is(1, "fail", 1);
        Sentence s = of("4 FAILED ones");
        for (int gate = 0; gate < 6; gate++) {
            s.with("gate", 1, 0);
        }
        for (int gate = 0; gate < 6; gate++) {
            s.is(1, "fail", gate).is(gate + 1, "count", 4).is(6, "count", 3);
        }
    }

    private static void timeRefusals() {
        for (int what = TIME; what <= WORST; what++) {
            of("CREWS (1 to 3) of hands").with("gate", 9, 9).is(BAD, "time", 0, what).is(BAD, "time", 4, what).is(BAD, "time", -1, what)
                .is(BAD, "time", MIN, what).is(BAD, "time", MAX, what).is(9, "time", 1, what).is(9, "time", 2, what).is(9, "time", 3, what);
        }
        of("TIME (what = 0), WORST (1), by so many CREWS. BAD; NONE.").is(BAD, "time", 1, -1).is(BAD, "time", 1, 2).is(BAD, "time", 3, MIN)
            .is(BAD, "time", 3, MAX).is(BAD, "time", 0, 2).with("gate", 9, 0).with("fail", 0).is(NONE, "time", 1, TIME)
            .is(BAD, "time", 0, TIME).is(BAD, "time", 4, WORST).is(BAD, "time", 1, 2);
    }

    private static void withoutGates() {
        Sentence s = of("(0 without GATES.)");
        for (int crews = 1; crews <= 3; crews++) {
            s.is(0, "time", crews, TIME).is(0, "time", crews, WORST);
        }
        s.is(BAD, "time", 0, TIME).is(BAD, "time", 4, WORST).is(BAD, "time", 1, 2);
    }

    private static void soundAtOnce() {
        of("sound GATES all at once").with("gate", 100, 0).is(100, "time", 1, TIME).with("gate", 99, 0).is(100, "time", 1, TIME)
            .with("gate", 101, 0).is(101, "time", 1, TIME).is(101, "time", 3, TIME);
        // By hand is as nothing for a sound one, and minutes to shut as nothing for a FAILED one.
        of("A GATE is sound or FAILED (by hand alone then).").with("gate", 10, 2000).is(10, "time", 1, TIME).with("fail", 0)
            .is(2000, "time", 1, TIME).with("mend", 0).is(10, "time", 1, TIME)
            .with("gate", 500, 3).is(500, "time", 1, TIME).with("fail", 1).is(10, "time", 1, TIME);
        of("the greatest minute of all").with("gate", 40, 0).with("gate", 1, 40).with("fail", 1).is(40, "time", 1, TIME)
            .with("gate", 1, 1).with("fail", 2).is(41, "time", 1, TIME).is(40, "time", 2, TIME).with("gate", 42, 0).is(42, "time", 1, TIME);
    }

    private static Sentence failed(Sentence s, int... hands) {
        for (int gate = 0; gate < hands.length; gate++) {
            s.with("gate", 1, hands[gate]).with("fail", gate);
        }
        return s;
    }

    private static void crews() {
        String words = "each CREW one at a time, they take them by numbers, as soon as one is free";
        failed(of(words), 7).is(7, "time", 1, TIME).is(7, "time", 2, TIME).is(7, "time", 3, TIME);
        failed(of(words), 7, 5).is(12, "time", 1, TIME).is(7, "time", 2, TIME).is(7, "time", 3, TIME);
        failed(of(words), 7, 5, 4).is(16, "time", 1, TIME).is(9, "time", 2, TIME).is(7, "time", 3, TIME);
        // By numbers, not the longest first: the last one is begun last.
        failed(of(words), 1, 1, 1, 10).is(13, "time", 1, TIME).is(11, "time", 2, TIME).is(11, "time", 3, TIME);
        failed(of(words), 10, 1, 1, 1).is(13, "time", 1, TIME).is(10, "time", 2, TIME).is(10, "time", 3, TIME);
        failed(of(words), 3, 3, 3, 3, 3, 3).is(18, "time", 1, TIME).is(9, "time", 2, TIME).is(6, "time", 3, TIME);
        // A sound one among them is no work for a CREW.
        failed(of(words), 7, 5, 4).with("mend", 1).is(11, "time", 1, TIME).is(7, "time", 2, TIME);
    }

    /** Which of two CREWS that are free takes a GATE cannot be seen in TIME; that only free ones do, can. */
    private static void leastCrew() {
        failed(of("(of several the least CREW)"), 5, 5, 8, 1, 1).is(13, "time", 2, TIME).is(8, "time", 3, TIME);
        failed(of("(of several the least CREW)"), 2, 3, 4, 5, 6, 7).is(15, "time", 2, TIME).is(11, "time", 3, TIME);
    }

    private static void cannotBeShut() {
        for (int gate = 0; gate < 6; gate++) {
            Sentence s = of("NONE: a FAILED one cannot be shut by hand");
            for (int k = 0; k < 6; k++) {
                s.with("gate", 50, k == gate ? 0 : 60);
            }
            s.is(50, "time", 3, TIME).with("fail", (gate + 1) % 6).is(60, "time", 3, TIME).with("fail", gate).is(NONE, "time", 3, TIME);
            s.is(NONE, "time", 3, WORST).with("mend", gate).is(60, "time", 3, TIME);
        }
    }

    /** A SLOW one cannot be shut by hand, and so has no TIME if it FAILS. */
    private static void slowCannotBeShut() {
        for (int minutes : new int[] {199, 200, 500}) {
            of("it cannot be shut by hand, and takes 200 minutes or more").with("gate", minutes, 0).is(minutes, "time", 1, TIME)
                .is(NONE, "time", 1, WORST).with("fail", 0).is(NONE, "time", 1, TIME).is(NONE, "time", 3, WORST)
                .with("mend", 0).is(minutes, "time", 1, TIME);
        }
    }

    private static void worst() {
        String words = "WORST: the greatest TIME with one more sound GATE FAILED, each tried";
        of(words).with("gate", 10, 30).with("gate", 10, 20).with("gate", 10, 40).is(10, "time", 1, TIME).is(40, "time", 1, WORST)
            .with("fail", 0).is(30, "time", 1, TIME).is(70, "time", 1, WORST).is(40, "time", 2, WORST)
            .with("fail", 2).is(70, "time", 1, TIME).is(90, "time", 1, WORST).is(60, "time", 2, WORST).is(40, "time", 3, WORST)
            .is(2, "count", 4);
        // One that FAILS is shut by hand alone: that may be sooner than by itself.
        of(words).with("gate", 100, 5).is(100, "time", 1, TIME).is(5, "time", 1, WORST);
        of("(TIME itself, if none is sound)").with("gate", 100, 5).with("gate", 100, 6).with("fail", 0).is(11, "time", 1, WORST)
            .with("fail", 1).is(11, "time", 1, TIME).is(11, "time", 1, WORST).is(6, "time", 2, WORST).is(6, "time", 3, WORST);
    }

    private static void worstNone() {
        of("NONE, if one of these is NONE").with("gate", 10, 20).with("gate", 10, 0).is(10, "time", 1, TIME).is(NONE, "time", 1, WORST)
            .with("fail", 0).is(20, "time", 1, TIME).is(NONE, "time", 1, WORST).with("fail", 1).is(NONE, "time", 1, WORST)
            .with("mend", 0).is(NONE, "time", 1, TIME).is(NONE, "time", 1, WORST);
        of("NONE, if one of these is NONE").with("gate", 10, 0).with("gate", 10, 20).is(NONE, "time", 3, WORST).is(10, "time", 3, TIME);
    }

    private static void greatestTime() {
        failed(of("the greatest minute of all"), 2000, 2000, 2000, 2000, 2000, 2000)
            .is(12000, "time", 1, TIME).is(6000, "time", 2, TIME).is(4000, "time", 3, TIME).is(12000, "time", 1, WORST)
            .with("mend", 5).is(10000, "time", 1, TIME).is(12000, "time", 1, WORST);
    }
}
