/** Promises 22 to 27. */
final class AskedTest {
    private static final Due due = new Due();

    public static void main(String[] args) {
        kinds();
        asks();
        traceStays();
        count();
        status();
        due.end();
    }

    private static void kinds() {
        int[][] cases = { // minutes, by hand, KIND
            {100, 0, 0}, {199, 0, 0}, {200, 0, 3}, {500, 0, 3}, {200, 201, 1}, {200, 200, 2}, {1, 1, 2}, {1, 2, 1}, {500, 1, 2},
        };
        boolean[][] isToo = { // by KIND told, by KIND asked
            {true, false, false, false}, {true, true, false, false}, {true, true, true, false}, {true, false, false, true},
        };
        for (int[] c : cases) {
            SeaGates x = new SeaGates();
            x.gate(c[0], c[1]);
            due.is("kind of " + c[0] + ", " + c[1], x.kind(0), c[2]);
            for (int kind = 0; kind < 4; kind++) {
                boolean is = isToo[c[2]][kind];
                due.is("as " + kind, x.as(0, kind), is ? c[0] : Due.KIND);
                due.is("status", x.status(), is ? 0 : 3);
            }
            x.fail(0);
            due.is("FAILED, it is of the same KIND", x.kind(0), c[2]);
        }
        SeaGates x = new SeaGates();
        x.gate(1, 1);
        due.is("kind(-1)", x.kind(-1), SeaGates.BAD);
        due.is("kind(1)", x.kind(1), SeaGates.BAD);
        due.is("as gate -1", x.as(-1, 0), SeaGates.BAD);
        due.is("as gate 1", x.as(1, 0), SeaGates.BAD);
        due.is("as kind -1", x.as(0, -1), SeaGates.BAD);
        due.is("as kind 4", x.as(0, 4), SeaGates.BAD);
        due.is("ask gate -1", x.ask(-1, 0), SeaGates.BAD);
        due.is("ask gate 1", x.ask(1, 0), SeaGates.BAD);
        due.is("ask what -1", x.ask(0, -1), SeaGates.BAD);
        due.is("ask what 2", x.ask(0, 2), SeaGates.BAD);
    }

    private static void asked(SeaGates x, int gate, int what, int want, int... bodies) {
        String call = "ask(" + gate + ", " + what + ")";
        due.is(call, x.ask(gate, what), want);
        for (int i = 0; i < bodies.length; i++) {
            due.is(call + ", trace(" + i + ")", x.trace(i), bodies[i]);
        }
        due.is(call + ", trace behind", x.trace(bodies.length), SeaGates.NONE);
    }

    private static void asks() {
        SeaGates x = new SeaGates();
        x.gate(100, 0);
        x.gate(50, 301);
        x.gate(80, 25);
        x.gate(300, 0);
        for (int failed = 0; failed < 2; failed++) {
            asked(x, 0, 0, 100, 10);
            asked(x, 0, 1, failed, 20);
            asked(x, 1, 0, 351, 11, 10);
            asked(x, 1, 1, failed + 351, 21, 20, 11, 10);
            asked(x, 2, 0, 52, 12, 11, 10);
            asked(x, 2, 1, failed + 52, 21, 20, 12, 11, 10);
            asked(x, 3, 0, 1300, 13, 10);
            asked(x, 3, 1, failed - 1300, 22, 20, 13, 10);
            for (int gate = 0; gate < 4; gate++) {
                x.fail(gate);
            }
        }
    }

    private static void traceStays() {
        SeaGates x = new SeaGates();
        x.gate(50, 300);
        x.ask(0, 1);
        x.ask(1, 0);
        x.ask(0, 2);
        due.is("refused, it stays", x.trace(3), 10);
        due.is("trace(-1)", x.trace(-1), SeaGates.NONE);
        due.is("trace(16)", x.trace(16), SeaGates.NONE);
        due.is("trace MAX", x.trace(Integer.MAX_VALUE), SeaGates.NONE);
        due.is("trace MIN", x.trace(Integer.MIN_VALUE), SeaGates.NONE);
        x.as(0, 3);
        x.kind(0);
        due.is("other calls leave it", x.trace(0), 21);
    }

    private static void count() {
        SeaGates x = new SeaGates();
        due.is("count(-1)", x.count(-1), SeaGates.BAD);
        due.is("count(6)", x.count(6), SeaGates.BAD);
        Due.world(x, 20, 0, 0, 0, 0, 0, 0, 0, 0);
        Due.world(x, 3, 0, 0, 0, 0, 0, 0, 0, 0);
        x.sheet(0, 0, 0);
        x.gate(1, 0);
        x.gate(1, 0);
        x.gate(1, 0);
        x.fail(1);
        x.ship(0, 1);
        int[] counts = {2, 2, 23, 3, 1, 1};
        for (int what = 0; what < 6; what++) {
            due.is("count(" + what + ")", x.count(what), counts[what]);
        }
    }

    private static void status() {
        SeaGates x = new SeaGates();
        x.gate(1, 0);
        x.as(0, 1);
        due.is("as", x.status(), 3);
        x.as(0, 9);
        x.as(9, 0);
        x.drop(9);
        x.set(9, 0, 0);
        x.copy(9, 0, 9, 0, 0);
        x.world(0, 0, 0);
        x.closings(0, 0, 0, 0, 0, 0);
        x.tooMany(0, 0, 0, 0, 0, 0);
        due.is("BAD ones leave it", x.status(), 3);
        x.best();
        x.count(0);
        x.ask(0, 0);
        x.river(0, 0);
        x.rule(4, 0);
        x.fail(0);
        x.time(1, 0);
        x.ship(0, 1);
        x.waits(0, 0, 0);
        x.status();
        due.is("calls without a SHEET leave it", x.status(), 3);
        x.as(0, 0);
        due.is("as, fine", x.status(), 0);
        x.drop(0);
        due.is("drop", x.status(), 1);
        x.sheet(0, 0, 8);
        due.is("sheet, fine", x.status(), 0);
        x.set(0, 8, 0);
        due.is("set", x.status(), 2);
        x.world(1, 0, 0);
        due.is("world, fine", x.status(), 0);
        x.world(1, 0, 1);
        due.is("world", x.status(), 2);
        x.closings(0, 0, 8, 0, 0, 0);
        due.is("closings, fine", x.status(), 0);
        x.tooMany(1, 0, 8, 0, 0, 0);
        due.is("tooMany", x.status(), 1);
        x.tooMany(0, 0, 8, 0, 0, 0);
        due.is("tooMany, fine", x.status(), 0);
        x.copy(0, 0, 1, 0, 0);
        due.is("copy", x.status(), 1);
        x.drop(0);
        due.is("drop, fine", x.status(), 0);
    }
}
