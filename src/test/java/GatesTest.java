/** Promises 14 to 17, with count(3) and count(4). */
final class GatesTest {
    private static final Due due = new Due();

    public static void main(String[] args) {
        gate();
        failAndMend();
        time();
        worst();
        crews();
        due.end();
    }

    private static void gate() {
        SeaGates x = new SeaGates();
        due.is("minutes 0", x.gate(0, 0), SeaGates.BAD);
        due.is("minutes 501", x.gate(501, 0), SeaGates.BAD);
        due.is("hand -1", x.gate(1, -1), SeaGates.BAD);
        due.is("hand 2001", x.gate(1, 2001), SeaGates.BAD);
        due.is("none yet", x.count(3), 0);
        for (int gate = 0; gate < 6; gate++) {
            due.is("its number", x.gate(gate == 0 ? 500 : 1, gate == 1 ? 2000 : 0), gate);
        }
        due.is("FULL", x.gate(1, 0), SeaGates.FULL);
        due.is("BAD ahead of FULL", x.gate(0, 0), SeaGates.BAD);
        due.is("six", x.count(3), 6);
        due.is("all are sound", x.count(4), 0);
    }

    private static void failAndMend() {
        SeaGates x = new SeaGates();
        due.is("fail none", x.fail(0), SeaGates.BAD);
        due.is("mend none", x.mend(0), SeaGates.BAD);
        x.gate(10, 20);
        due.is("fail(-1)", x.fail(-1), SeaGates.BAD);
        due.is("mend(1)", x.mend(1), SeaGates.BAD);
        due.is("mend a sound one", x.mend(0), 0);
        due.is("fail", x.fail(0), 1);
        due.is("fail again", x.fail(0), 0);
        due.is("one FAILED", x.count(4), 1);
        due.is("mend", x.mend(0), 1);
        due.is("none FAILED", x.count(4), 0);
    }

    private static void time() {
        SeaGates x = new SeaGates();
        due.is("crews 0", x.time(0, 0), SeaGates.BAD);
        due.is("crews 4", x.time(4, 0), SeaGates.BAD);
        due.is("what -1", x.time(1, -1), SeaGates.BAD);
        due.is("what 2", x.time(1, 2), SeaGates.BAD);
        due.is("without GATES", x.time(3, 0), 0);
        due.is("without GATES, WORST", x.time(3, 1), 0);
        x.gate(100, 0);
        x.gate(30, 40);
        due.is("all at once", x.time(1, 0), 100);
        x.fail(1);
        due.is("by hand, but less", x.time(1, 0), 100);
        x.fail(0);
        due.is("it cannot be shut", x.time(1, 0), SeaGates.NONE);
    }

    private static void worst() {
        SeaGates x = new SeaGates();
        x.gate(100, 5);
        due.is("the one sound GATE FAILS: less than TIME", x.time(1, 1), 5);
        x.gate(90, 5);
        due.is("the greatest of those tried", x.time(1, 1), 100);
        x.fail(0);
        x.fail(1);
        due.is("none is sound: TIME", x.time(1, 1), 10);
        due.is("none is sound, two CREWS", x.time(2, 1), 5);
        x.gate(7, 0);
        due.is("the only sound one cannot be", x.time(1, 1), SeaGates.NONE);
        x.fail(2);
        due.is("none is sound, and one cannot be", x.time(1, 1), SeaGates.NONE);
        due.is("WORST changes nothing", x.count(4), 3);
    }

    private static void crews() {
        SeaGates x = new SeaGates();
        int[] hands = {50, 30, 30, 10, 60, 5};
        for (int hand : hands) {
            x.gate(1, hand);
        }
        for (int gate = 0; gate < 6; gate++) {
            x.fail(gate);
        }
        due.is("one CREW", x.time(1, 0), 185);
        // CREW 0: 50, 10 (till 60), 60 (till 120); CREW 1: 30, 30 (till 60), 5
        due.is("two CREWS", x.time(2, 0), 120);
        // CREW 0: 50, 5; CREW 1: 30, 10 (till 40); CREW 2: 30, 60 (till 90)
        due.is("three CREWS", x.time(3, 0), 90);
        x.mend(4);
        due.is("one of them mended, three CREWS", x.time(3, 0), 50);
        due.is("WORST is that one", x.time(3, 1), 90);
    }
}
