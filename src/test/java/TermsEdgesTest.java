import java.util.ArrayList;
import java.util.Arrays;
import java.util.List;

/**
 * What the document says of refusals ahead of all else: their order where several fit, the numbers of
 * FINDINGS, and that what is refused, or found, changes nothing but status().
 */
final class TermsEdgesTest {
    private static final Due due = new Due();
    private static final int BAD = SeaGates.BAD, FULL = SeaGates.FULL;
    private static final int MIN = Integer.MIN_VALUE, MAX = Integer.MAX_VALUE;
    private static final int MOST_CALLS = 512;
    private static final int EMPTY = 0, SOME = 1, ALL = 2;
    /** Parts of what is read: SHEETS 0 to 7, one by one, WORLDS, and all else. */
    private static final int PARTS = 10, PART_WORLDS = 8;

    private record Refusal(long answer, String name, int... args) { }

    public static void main(String[] args) {
        numbers();
        badAheadOfFull();
        badAheadOfFindings();
        fullAheadOfFindings();
        findingsInTime();
        changesNothing(EMPTY, onEmpty());
        changesNothing(SOME, onSome());
        changesNothing(ALL, onAll());
        due.end();
    }

    private static Sentence of(String words) {
        return new Sentence(due, words);
    }

    private static void numbers() {
        due.is("NONE", SeaGates.NONE, -1000000);
        due.is("BAD", SeaGates.BAD, -1000001);
        due.is("STATE", SeaGates.STATE, -1000002);
        due.is("FULL", SeaGates.FULL, -1000003);
        of("-1000010 less 1 NULL (a SHEET that is missing), 2 PLACE (no such place of a SHEET), 3 KIND (a GATE that is not that), "
            + "4 SIZE (fewer than none), 5 STORE (SHEETS of two LANES)")
            .with("gate", 1, 0).with("sheet", 0, 0, 1).with("sheet", 1, 1, 1)
            .is(-1000011, "drop", 2).is(1, "status").is(-1000012, "set", 0, 1, 0).is(2, "status").is(-1000013, "as", 0, 1).is(3, "status")
            .is(-1000014, "sheet", 0, 0, -1).is(4, "status").is(-1000015, "copy", 0, 0, 1, 0, 1).is(5, "status");
    }

    private static void badAheadOfFull() {
        Sentence s = of("Refusals are answers, the first of these that fits: BAD").with("sheet", 0, 0, 8);
        for (int k = 0; k < 20; k++) {
            s.with("world", 1, 0, 0).with("gate", 1, 0).with("ship", 0, 1);
        }
        s.is(FULL, "world", 1, 0, 0).is(BAD, "world", 0, 0, 0).is(BAD, "world", 21, 0, 0).is(BAD, "world", 1, -1, 0).is(BAD, "world", 1, 8, 0);
        s.is(FULL, "gate", 1, 0).is(BAD, "gate", 0, 0).is(BAD, "gate", 501, 0).is(BAD, "gate", 1, -1).is(BAD, "gate", 1, 2001);
        s.is(FULL, "ship", 0, 1).is(BAD, "ship", -1, 1).is(BAD, "ship", 100001, 1).is(BAD, "ship", 0, 0).is(BAD, "ship", 0, 501);
    }

    private static void badAheadOfFindings() {
        of("Refusals are answers, the first of these that fits: BAD").with("sheet", 0, 0, 8).with("gate", 1, 0)
            .is(BAD, "sheet", 8, 0, -1).is(BAD, "sheet", 0, 3, -1) // SIZE
            .is(BAD, "copy", 1, 0, 8, 0, 0).is(BAD, "copy", 8, 0, 1, 0, 0).is(BAD, "copy", 0, -1, 8, 0, 0) // NULL, PLACE
            .is(BAD, "world", 0, 1, 0).is(BAD, "world", 21, 0, 1) // NULL, PLACE
            .is(BAD, "closings", 1, 0, 0, 0, 0, 0).is(BAD, "closings", 1, 0, 61, 0, 0, 0).is(BAD, "closings", 1, 0, 1, 101, 0, 0)
            .is(BAD, "closings", 1, 0, 1, 0, 0, 301).is(BAD, "closings", 0, 8, 1, -1, 0, 0).is(BAD, "closings", 0, 8, 1, 0, 0, -1)
            .is(BAD, "tooMany", 1, 0, 0, 0, 0, 0).is(BAD, "tooMany", 1, 0, 61, 0, 0, 0).is(BAD, "tooMany", 1, 0, 1, 101, 0, 0)
            .is(BAD, "tooMany", 1, 0, 1, 0, 0, -1).is(BAD, "tooMany", 0, 8, 1, 0, 0, -1)
            .is(BAD, "as", 1, 1).is(BAD, "as", 0, 4) // KIND
            .is(0, "status");
    }

    private static void fullAheadOfFindings() {
        Sentence s = of("FULL, then FINDINGS").with("sheet", 0, 0, 8);
        for (int world = 0; world < 8; world++) {
            s.is(Due.NULL, "world", 1, 1, 0).is(Due.PLACE, "world", 1, 0, 1).is(world, "world", 1, 0, 0);
        }
        s.is(FULL, "world", 1, 1, 0).is(FULL, "world", 1, 0, 1).is(FULL, "world", 1, 0, MIN).is(0, "status");
    }

    private static void findingsInTime() {
        of("FINDINGS, of several the first in time").with("sheet", 0, 0, 8).with("sheet", 1, 1, 8)
            .is(Due.NULL, "set", 2, -1, 0).is(Due.NULL, "copy", 2, -1, 0, 0, 0).is(Due.NULL, "copy", 0, 0, 2, 0, -1)
            .is(Due.NULL, "world", 1, 2, -1).is(Due.NULL, "closings", 2, -1, 1, 0, 0, 0).is(Due.NULL, "tooMany", 2, -1, 1, 0, 0, 0)
            .is(Due.STORE, "copy", 0, -1, 1, 0, 0).is(Due.STORE, "copy", 0, 0, 1, 9, 0).is(Due.STORE, "copy", 0, 0, 1, 0, -1)
            .with("drop", 1).is(Due.NULL, "copy", 0, 0, 1, 0, 1).is(Due.NULL, "copy", 1, 0, 0, 0, 1);
    }

    private static Refusal refusal(long answer, String name, int... args) {
        return new Refusal(answer, name, args);
    }

    /** BAD in every state. */
    private static List<Refusal> always() {
        return new ArrayList<>(List.of(
            refusal(BAD, "sheet", -1, 0, 1), refusal(BAD, "sheet", 8, 0, 1), refusal(BAD, "sheet", 0, -1, 1), refusal(BAD, "sheet", 0, 3, 1),
            refusal(BAD, "sheet", 0, 0, 61), refusal(Due.SIZE, "sheet", 0, 0, -1), refusal(Due.SIZE, "sheet", 7, 2, MIN),
            refusal(BAD, "set", -1, 0, 1), refusal(BAD, "set", 8, 0, 1), refusal(BAD, "copy", -1, 0, 0, 0, 1), refusal(BAD, "copy", 0, 0, 8, 0, 1),
            refusal(BAD, "drop", -1), refusal(BAD, "drop", 8), refusal(BAD, "world", 0, 0, 0), refusal(BAD, "world", 21, 0, 0),
            refusal(BAD, "world", 1, -1, 0), refusal(BAD, "world", 1, 8, 0), refusal(BAD, "river", -1, 1), refusal(BAD, "river", 8, 1),
            refusal(BAD, "river", 0, -1), refusal(BAD, "river", 7, 101), refusal(BAD, "rule", -1, 1), refusal(BAD, "rule", 8, 1),
            refusal(BAD, "rule", 0, 0), refusal(BAD, "rule", 0, 4), refusal(BAD, "rule", 1, 0), refusal(BAD, "rule", 1, 4),
            refusal(BAD, "rule", 2, -1), refusal(BAD, "rule", 2, 1001), refusal(BAD, "rule", 7, -1), refusal(BAD, "rule", 7, 1001),
            refusal(BAD, "hour", -1, 0, 0), refusal(BAD, "hour", 8, 0, 0), refusal(BAD, "hour", 0, -1, 0), refusal(BAD, "hour", 0, 8, 0),
            refusal(BAD, "hour", 0, 0, -1), refusal(BAD, "hour", 0, 0, 4), refusal(BAD, "shutAt", -1), refusal(BAD, "shutAt", 9),
            refusal(BAD, "groups", -1), refusal(BAD, "groups", 8), refusal(BAD, "gate", 0, 0), refusal(BAD, "gate", 501, 0),
            refusal(BAD, "gate", 1, -1), refusal(BAD, "gate", 1, 2001), refusal(BAD, "fail", -1), refusal(BAD, "fail", 6),
            refusal(BAD, "mend", -1), refusal(BAD, "mend", 6), refusal(BAD, "time", 0, 0), refusal(BAD, "time", 4, 0),
            refusal(BAD, "time", 1, -1), refusal(BAD, "time", 1, 2), refusal(BAD, "ship", -1, 1), refusal(BAD, "ship", 100001, 1),
            refusal(BAD, "ship", 0, 0), refusal(BAD, "ship", 0, 501), refusal(BAD, "waits", -1, 0, 0), refusal(BAD, "waits", 20, 0, 0),
            refusal(BAD, "waits", 0, -1, 0), refusal(BAD, "waits", 0, 1, 0), refusal(BAD, "waits", 0, 0, 100001),
            refusal(BAD, "closings", 8, 0, 1, 0, 0, 0), refusal(BAD, "closings", 0, 0, 0, 0, 0, 0), refusal(BAD, "closings", 0, 0, 61, 0, 0, 0),
            refusal(BAD, "closings", 0, 0, 1, -1, 0, 0), refusal(BAD, "closings", 0, 0, 1, 101, 0, 0), refusal(BAD, "closings", 0, 0, 1, 0, 0, -1),
            refusal(BAD, "closings", 0, 0, 1, 0, 0, 301), refusal(BAD, "tooMany", -1, 0, 1, 0, 0, 0), refusal(BAD, "tooMany", 0, 0, 0, 0, 0, 0),
            refusal(BAD, "tooMany", 0, 0, 61, 0, 0, 0), refusal(BAD, "tooMany", 0, 0, 1, 101, 0, 0), refusal(BAD, "tooMany", 0, 0, 1, 0, 0, -1),
            refusal(BAD, "kind", -1), refusal(BAD, "kind", 6), refusal(BAD, "as", -1, 0), refusal(BAD, "as", 6, 0), refusal(BAD, "as", 0, -1),
            refusal(BAD, "as", 0, 4), refusal(BAD, "ask", -1, 0), refusal(BAD, "ask", 6, 0), refusal(BAD, "ask", 0, -1), refusal(BAD, "ask", 0, 2),
            refusal(SeaGates.NONE, "trace", -1), refusal(SeaGates.NONE, "trace", 16), refusal(BAD, "count", -1), refusal(BAD, "count", 6)));
    }

    private static List<Refusal> onEmpty() {
        List<Refusal> all = always();
        all.addAll(List.of(
            refusal(Due.NULL, "set", 0, 0, 1), refusal(Due.NULL, "copy", 0, 0, 0, 0, 0), refusal(Due.NULL, "drop", 7), refusal(Due.NULL, "world", 1, 0, 0),
            refusal(Due.NULL, "closings", 0, 0, 1, 0, 0, 0), refusal(Due.NULL, "tooMany", 0, 0, 1, 0, 0, 0), refusal(BAD, "hour", 0, 0, 0),
            refusal(BAD, "fail", 0), refusal(BAD, "mend", 0), refusal(BAD, "kind", 0), refusal(BAD, "as", 0, 0), refusal(BAD, "ask", 0, 0),
            refusal(BAD, "waits", 0, 0, 0), refusal(SeaGates.NONE, "trace", 0)));
        return all;
    }

    private static List<Refusal> onSome() {
        List<Refusal> all = always();
        all.addAll(List.of(
            refusal(Due.SIZE, "sheet", 1, 0, -1), refusal(Due.SIZE, "sheet", 2, 0, -9), refusal(BAD, "sheet", 1, 3, -1), refusal(BAD, "sheet", 1, 2, 61),
            refusal(Due.NULL, "set", 4, 0, 1), refusal(Due.PLACE, "set", 0, 10, 1), refusal(Due.PLACE, "set", 0, -1, 1),
            refusal(Due.PLACE, "set", 2, 0, 1), refusal(Due.PLACE, "set", 1, MAX, 1), refusal(Due.NULL, "copy", 0, 0, 4, 0, 1),
            refusal(Due.NULL, "copy", 4, 0, 0, 0, 1), refusal(Due.STORE, "copy", 0, 0, 1, 0, 1), refusal(Due.STORE, "copy", 1, 0, 0, 0, 1),
            refusal(Due.PLACE, "copy", 0, 0, 0, 1, 10), refusal(Due.PLACE, "copy", 0, 9, 0, 0, 2), refusal(Due.PLACE, "copy", 0, 0, 0, 0, -1),
            refusal(Due.PLACE, "copy", 0, -1, 0, 0, 1), refusal(Due.PLACE, "copy", 0, 0, 0, -1, 1), refusal(Due.PLACE, "copy", 3, 0, 0, 0, 5),
            refusal(Due.PLACE, "copy", 0, 0, 3, 0, 5), refusal(Due.NULL, "drop", 4), refusal(Due.NULL, "world", 1, 4, 0),
            refusal(Due.PLACE, "world", 1, 0, 3), refusal(Due.PLACE, "world", 1, 0, -1), refusal(Due.PLACE, "world", 1, 2, 0),
            refusal(BAD, "world", 1, 0, 1), refusal(BAD, "world", 1, 0, 2), refusal(BAD, "hour", 2, 0, 0), refusal(BAD, "fail", 3),
            refusal(BAD, "mend", 3), refusal(BAD, "kind", 3), refusal(BAD, "as", 3, 0), refusal(BAD, "ask", 3, 1), refusal(BAD, "waits", 2, 0, 0),
            refusal(Due.KIND, "as", 0, 1), refusal(Due.KIND, "as", 1, 3), refusal(Due.KIND, "as", 2, 1), refusal(Due.NULL, "closings", 4, 0, 1, 0, 0, 0),
            refusal(Due.PLACE, "closings", 0, 10, 1, 0, 0, 0), refusal(Due.PLACE, "closings", 0, 0, 11, 0, 0, 0),
            refusal(Due.NULL, "tooMany", 4, 0, 1, 0, 0, 0), refusal(Due.PLACE, "tooMany", 0, -1, 1, 0, 0, 0), refusal(SeaGates.NONE, "trace", 5)));
        return all;
    }

    private static List<Refusal> onAll() {
        List<Refusal> all = always();
        all.addAll(List.of(
            refusal(FULL, "world", 1, 0, 0), refusal(FULL, "world", 20, 7, 52), refusal(FULL, "world", 1, 0, 53), refusal(FULL, "world", 1, 0, -1),
            refusal(FULL, "world", 1, 1, 0), refusal(FULL, "gate", 1, 0), refusal(FULL, "gate", 500, 2000), refusal(FULL, "ship", 0, 1),
            refusal(FULL, "ship", 100000, 500), refusal(Due.PLACE, "set", 7, 60, 1), refusal(Due.PLACE, "copy", 6, 0, 7, 1, 60),
            refusal(Due.PLACE, "copy", 7, 1, 7, 0, 60), refusal(Due.STORE, "copy", 0, 0, 1, 0, 60), refusal(Due.PLACE, "closings", 7, 1, 60, 0, 0, 0),
            refusal(Due.PLACE, "tooMany", 7, 60, 1, 0, 0, 0)));
        return all;
    }

    /** Two objects with the same calls behind them, one of them with the refused call too, answer alike in all that can be read. */
    private static void changesNothing(int state, List<Refusal> refusals) {
        new Sentence(due, "What is refused, or found, changes nothing but status().");
        for (Refusal r : refusals) {
            for (int part = 0; part < PARTS; part++) {
                String call = "in state " + state + ", " + r.name + Arrays.toString(r.args);
                Reader refused = new Reader(state);
                Reader left = new Reader(state);
                due.is(call, refused.call(r.name, r.args), r.answer);
                int found = r.answer < -1000010 ? (int) (-1000010 - r.answer) : (int) left.call("status");
                due.is("status() behind, " + call, refused.call("status"), found);
                due.holds(call + " changes nothing but status(), part " + part, refused.read(part).equals(left.read(part)));
            }
        }
    }

    /** An object in some state, of which all can be read, a part at a time, by what calls answer. */
    private static final class Reader {
        private final SeaGates x = new SeaGates();
        private final List<Long> seen = new ArrayList<>();
        private int calls = 0;

        Reader(int state) {
            if (state == SOME) {
                becomeSome();
            } else if (state == ALL) {
                becomeAll();
            }
            // So that a status() that was lost is seen.
            if (state != EMPTY) {
                call("as", 0, 2);
            }
        }

        long call(String name, int... a) {
            calls++;
            due.holds("512 calls at most", calls <= MOST_CALLS);
            return Calls.answer(x, name, a);
        }

        private void set(int sheet, int... items) {
            for (int i = 0; i < items.length; i++) {
                call("set", sheet, i, items[i]);
            }
        }

        private void becomeSome() {
            call("sheet", 0, 1, 10);
            set(0, 100, 200, 301, 150, 400, 0, 1000, 299, -1, 1001);
            call("sheet", 1, 0, 3);
            set(1, 1, -1, 127);
            call("sheet", 2, 2, 0);
            call("sheet", 3, 1, 4);
            set(3, 5, 6, 7, 8);
            call("world", 3, 0, 0);
            call("set", 0, 5, 350);
            call("world", 20, 0, 0);
            call("river", 3, 33);
            call("rule", 0, 2);
            call("rule", 4, 60);
            call("gate", 100, 0);
            call("gate", 50, 70);
            call("gate", 300, 0);
            call("fail", 1);
            call("ship", 10, 20);
            call("ship", 5, 30);
            call("ask", 1, 1);
        }

        private void becomeAll() {
            for (int sheet = 0; sheet < 8; sheet++) {
                call("sheet", sheet, sheet == 0 ? 1 : 2, 60);
                call("set", sheet, 0, 301 + sheet);
                call("set", sheet, 8, -1);
                call("set", sheet, 59, 99 - sheet);
            }
            for (int world = 0; world < 8; world++) {
                call("world", world + 1, world, 0);
            }
            for (int gate = 0; gate < 6; gate++) {
                call("gate", 10 + gate, 20 + gate);
            }
            for (int ship = 0; ship < 20; ship++) {
                call("ship", 100 - ship, 1 + ship);
            }
            call("fail", 5);
            call("ask", 0, 0);
        }

        private void see(String name, int... a) {
            seen.add(call(name, a));
        }

        List<Long> read(int part) {
            if (part < PART_WORLDS) {
                readSheet(part);
            } else if (part == PART_WORLDS) {
                readWorlds();
            } else {
                readRest();
            }
            return seen;
        }

        /** The last calls change what is read; nothing is read behind them. */
        private void readSheet(int sheet) {
            for (int i = 0; i <= 60; i++) {
                see("closings", sheet, i, 1, 0, -1, 0);
                see("closings", sheet, i, 1, 0, 0, 0);
                see("closings", sheet, i, 1, 0, 200, 0);
            }
            see("set", sheet, 0, 70000);
            see("drop", sheet);
        }

        private void readWorlds() {
            see("best");
            for (int hour = 0; hour < 8; hour++) {
                for (int world = 0; world < 8; world++) {
                    see("hour", world, hour, 0);
                    see("hour", world, hour, 2);
                    see("hour", world, hour, 3);
                }
                see("groups", hour);
                see("shutAt", hour);
            }
            see("shutAt", 8);
            see("alarm");
            for (int hour = 0; hour < 8; hour++) {
                see("river", hour, 0);
                see("rule", hour, 1);
            }
        }

        private void readRest() {
            for (int i = 0; i < 16; i++) {
                see("trace", i);
            }
            for (int what = 0; what < 6; what++) {
                see("count", what);
            }
            for (int gate = 0; gate < 6; gate++) {
                see("kind", gate);
                see("as", gate, 0);
                see("ask", gate, 0);
                see("ask", gate, 1);
            }
            for (int crews = 1; crews <= 3; crews++) {
                see("time", crews, 0);
                see("time", crews, 1);
            }
            for (int ship = 0; ship < 20; ship++) {
                see("waits", ship, 0, 0);
                see("waits", ship, 15, 90);
            }
            // How many more there is room for.
            for (int more = 0; more < 20; more++) {
                see("ship", 7, 1);
                see("gate", 1, 1);
            }
        }
    }
}
