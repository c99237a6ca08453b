/** The edges of promises 1 to 5 and of what the document says of SHEETS, sentence by sentence. */
final class SheetsEdgesTest {
    private static final Due due = new Due();
    private static final int BAD = SeaGates.BAD, NONE = SeaGates.NONE;
    private static final int MIN = Integer.MIN_VALUE, MAX = Integer.MAX_VALUE;
    private static final int[] NO_SHEETS = {MIN, -1, 8, MAX};

    public static void main(String[] args) {
        newObject();
        sheetNumbers();
        missingAtFirst();
        lanes();
        items();
        zeroAtFirst();
        inPlace();
        lowestBits();
        setPlaces();
        copyPlaces();
        copyRefusals();
        copiedAsTheyWere();
        drop();
        due.end();
    }

    private static Sentence of(String words) {
        return new Sentence(due, words);
    }

    private static void newObject() {
        Sentence s = of("No SHEETS, WORLDS, GATES, SHIPS.");
        for (int what = 0; what <= 5; what++) {
            s.is(0, "count", what);
        }
        s.is(BAD, "hour", 0, 0, 0).is(BAD, "kind", 0).is(BAD, "waits", 0, 0, 0).is(0, "status").is(NONE, "trace", 0);
    }

    private static void sheetNumbers() {
        for (int sheet : NO_SHEETS) {
            Sentence s = of("SHEETS 0 .. 7").with("sheet", 0, 1, 8);
            s.is(BAD, "sheet", sheet, 0, 1).is(BAD, "set", sheet, 0, 0).is(BAD, "drop", sheet).is(BAD, "world", 1, sheet, 0);
            s.is(BAD, "copy", sheet, 0, 0, 0, 1).is(BAD, "copy", 0, 0, sheet, 0, 1).is(BAD, "copy", sheet, 0, sheet, 0, 0);
            s.is(BAD, "closings", sheet, 0, 1, 0, 0, 0).is(BAD, "tooMany", sheet, 0, 1, 0, 0, 0);
            s.is(1, "count", 0).is(0, "count", 1);
        }
        Sentence s = of("SHEETS 0 .. 7");
        for (int sheet = 0; sheet <= 7; sheet++) {
            s.is(8, "sheet", sheet, 1, 8).is(sheet + 1, "count", 0).is(5, "set", sheet, 0, 5).is(1, "copy", sheet, 0, sheet, 1, 1);
            s.is(2, "closings", sheet, 0, 8, 0, 4, 0).is(0, "tooMany", sheet, 0, 8, 0, 4, 1).is(sheet, "world", 1, sheet, 0);
        }
        s.is(2, "copy", 0, 0, 7, 0, 2).is(2, "copy", 7, 0, 0, 0, 2);
        for (int sheet = 7; sheet >= 0; sheet--) {
            s.is(8, "drop", sheet).is(sheet, "count", 0);
        }
    }

    private static void missingAtFirst() {
        for (int sheet = 0; sheet <= 7; sheet++) {
            int there = 7 - sheet;
            Sentence s = of("are missing (at first)").with("sheet", there, 0, 8);
            s.is(Due.NULL, "set", sheet, 0, 0).is(Due.NULL, "drop", sheet).is(Due.NULL, "world", 1, sheet, 0);
            s.is(Due.NULL, "copy", sheet, 0, there, 0, 0).is(Due.NULL, "copy", there, 0, sheet, 0, 0);
            s.is(Due.NULL, "copy", sheet, 0, sheet, 0, 0);
            s.is(Due.NULL, "closings", sheet, 0, 1, 0, 0, 0).is(Due.NULL, "tooMany", sheet, 0, 1, 0, 0, 0).is(1, "count", 0);
        }
    }

    private static void lanes() {
        of("a LANE (0 bytes, 1 shorts, 2 ints)")
            .is(BAD, "sheet", 0, MIN, 1).is(BAD, "sheet", 0, -1, 1).is(BAD, "sheet", 0, 3, 1).is(BAD, "sheet", 0, MAX, 1).is(0, "count", 0)
            .is(1, "sheet", 0, 0, 1).is(112, "set", 0, 0, 70000)
            .is(1, "sheet", 0, 1, 1).is(4464, "set", 0, 0, 70000)
            .is(1, "sheet", 0, 2, 1).is(70000, "set", 0, 0, 70000);
    }

    private static void items() {
        for (int lane = 0; lane <= 2; lane++) {
            of("0 to 60 ITEMS")
                .is(BAD, "sheet", 0, lane, 61).is(BAD, "sheet", 0, lane, MAX).is(0, "status").is(0, "count", 0)
                .is(60, "sheet", 0, lane, 60).is(1, "set", 0, 59, 1).is(Due.PLACE, "set", 0, 60, 1).is(60, "drop", 0)
                .is(1, "sheet", 0, lane, 1).is(1, "set", 0, 0, 1).is(Due.PLACE, "set", 0, 1, 1).is(1, "drop", 0)
                .is(0, "sheet", 0, lane, 0).is(1, "count", 0).is(Due.PLACE, "set", 0, 0, 1).is(0, "drop", 0);
            of("4 SIZE (fewer than none)")
                .is(Due.SIZE, "sheet", 0, lane, -1).is(4, "status").is(0, "count", 0).is(Due.NULL, "drop", 0)
                .is(Due.SIZE, "sheet", 0, lane, MIN).is(4, "status").is(0, "sheet", 0, lane, 0).is(0, "status");
        }
        of("BAD: SHEET, LANE, n above 60; SIZE.")
            .is(BAD, "sheet", 8, 0, -1).is(BAD, "sheet", -1, 0, -1).is(BAD, "sheet", 0, 3, -1).is(BAD, "sheet", 0, -1, -1).is(0, "status");
    }

    private static void zeroAtFirst() {
        for (int lane = 0; lane <= 2; lane++) {
            Sentence s = of("0 at first").with("sheet", 3, lane, 60);
            s.is(0, "closings", 3, 0, 60, 0, 0, 0).is(60, "closings", 3, 0, 60, 0, -1, 0);
            for (int i = 0; i < 60; i++) {
                s.with("set", 3, i, i + 1);
            }
            s.is(60, "closings", 3, 0, 60, 0, 0, 0);
            s.with("sheet", 3, lane, 60).is(0, "closings", 3, 0, 60, 0, 0, 0).is(60, "closings", 3, 0, 60, 0, -1, 0);
            s.with("set", 3, 59, 9).with("sheet", 3, lane, 1).with("sheet", 3, lane, 60).item(3, 59, 0);
            s.with("set", 3, 59, 9).with("drop", 3).with("sheet", 3, lane, 60).item(3, 59, 0);
        }
    }

    private static void inPlace() {
        of("A SHEET of a LANE with n ITEMS, in place of what is there: n.")
            .lay(2, 2, 70000, 2, 3)
            .is(5, "sheet", 2, 0, 5).is(1, "count", 0).has(2, 0, 0, 0, 0, 0).is(112, "set", 2, 0, 70000)
            .is(2, "sheet", 2, 1, 2).is(1, "count", 0).is(Due.PLACE, "set", 2, 2, 0).is(2, "drop", 2);
    }

    private static void lowestBits() {
        int[][] byBytes = {
            {127, 127}, {128, -128}, {129, -127}, {255, -1}, {256, 0}, {257, 1}, {-1, -1}, {-128, -128}, {-129, 127}, {-256, 0},
            {MAX, -1}, {MIN, 0},
        };
        int[][] byShorts = {
            {32767, 32767}, {32768, -32768}, {65535, -1}, {65536, 0}, {65537, 1}, {-1, -1}, {-32768, -32768}, {-32769, 32767}, {-65536, 0},
            {MAX, -1}, {MIN, 0},
        };
        int[][] byInts = {{MAX, MAX}, {MIN, MIN}, {-1, -1}, {0, 0}, {65536, 65536}};
        int[][][] all = {byBytes, byShorts, byInts};
        for (int lane = 0; lane <= 2; lane++) {
            for (int[] becomes : all[lane]) {
                of("its lowest bits, as many as the LANE has (read with their sign): what it is then.")
                    .with("sheet", 0, lane, 3).is(becomes[1], "set", 0, 1, becomes[0]).has(0, 0, becomes[1], 0);
            }
        }
    }

    private static void setPlaces() {
        of("2 PLACE (no such place of a SHEET)").lay(0, 1, 4, 5, 6)
            .is(Due.PLACE, "set", 0, -1, 9).is(2, "status").is(Due.PLACE, "set", 0, 3, 9)
            .is(Due.PLACE, "set", 0, MIN, 9).is(Due.PLACE, "set", 0, MAX, 9).has(0, 4, 5, 6)
            .is(7, "set", 0, 0, 7).is(0, "status").is(8, "set", 0, 2, 8).has(0, 7, 5, 8);
        of("BAD: SHEET; NULL; PLACE.")
            .is(BAD, "set", 8, -1, 0).is(0, "status").is(Due.NULL, "set", 0, -1, 0).is(Due.NULL, "set", 0, 60, 0).is(1, "status")
            .with("sheet", 0, 0, 0).is(Due.PLACE, "set", 0, 0, 0).is(Due.PLACE, "set", 0, -1, 0).is(2, "status")
            .is(BAD, "set", -1, 0, 0).is(2, "status");
    }

    private static void copyPlaces() {
        int[][] beyond = { // i, j, n, of 5 ITEMS to 3
            {-1, 0, 1}, {0, -1, 1}, {0, 0, -1}, {-1, 0, 0}, {0, -1, 0}, {5, 0, 1}, {0, 3, 1}, {6, 0, 0}, {0, 4, 0}, {3, 0, 3}, {0, 1, 3},
            {0, 0, 4}, {0, 0, 6}, {MAX, 0, 1}, {0, MAX, 1}, {1, 0, MAX}, {0, 1, MAX}, {MAX, MAX, MAX}, {MIN, 0, 1}, {0, MIN, 1},
            {0, 0, MIN}, {MIN, MIN, MIN}, {5, 3, MIN}, {MAX, 0, 0}, {0, MAX, 0}, {1, 1, -1}, {-1, -1, 2},
        };
        for (int[] c : beyond) {
            of("PLACE (i, j, n below 0, or beyond an end).").lay(0, 1, 1, 2, 3, 4, 5).lay(1, 1, 6, 7, 8)
                .is(Due.PLACE, "copy", 0, c[0], 1, c[1], c[2]).is(2, "status").has(0, 1, 2, 3, 4, 5).has(1, 6, 7, 8);
        }
        of("PLACE (i, j, n below 0, or beyond an end).").lay(0, 1, 1, 2, 3, 4, 5).lay(1, 1, 6, 7, 8)
            .is(0, "copy", 0, 5, 1, 3, 0).is(0, "copy", 0, 0, 1, 0, 0).has(1, 6, 7, 8).is(0, "status")
            .is(1, "copy", 0, 4, 1, 2, 1).has(1, 6, 7, 5).is(3, "copy", 0, 2, 1, 0, 3).has(1, 3, 4, 5)
            .is(3, "copy", 1, 0, 0, 2, 3).is(Due.PLACE, "copy", 1, 0, 0, 3, 3).is(Due.PLACE, "copy", 1, 1, 0, 0, 3);
        of("PLACE (i, j, n below 0, or beyond an end).").with("sheet", 0, 2, 0).with("sheet", 1, 2, 60)
            .is(0, "copy", 0, 0, 0, 0, 0).is(0, "copy", 0, 0, 1, 60, 0).is(Due.PLACE, "copy", 0, 0, 1, 61, 0)
            .is(Due.PLACE, "copy", 0, 0, 1, 0, 1).is(60, "copy", 1, 0, 1, 0, 60).is(Due.PLACE, "copy", 1, 0, 1, 0, 61);
    }

    private static void copyRefusals() {
        of("BAD: SHEETS; NULL; STORE; PLACE")
            .with("sheet", 0, 0, 3).with("sheet", 1, 1, 3)
            .is(BAD, "copy", 8, 0, 2, 0, 1).is(BAD, "copy", 2, 0, 8, 0, 1).is(BAD, "copy", -1, 0, 1, -1, 1).is(0, "status")
            .is(Due.NULL, "copy", 2, 0, 1, 0, 1).is(1, "status").is(Due.NULL, "copy", 1, 0, 2, 0, 1)
            .is(Due.NULL, "copy", 2, -1, 1, 0, 1).is(Due.NULL, "copy", 1, 0, 2, 0, -1).is(Due.NULL, "copy", 1, 4, 2, 0, 1)
            .is(Due.STORE, "copy", 0, 0, 1, 0, 1).is(5, "status").is(Due.STORE, "copy", 1, 0, 0, 0, 1)
            .is(Due.STORE, "copy", 0, 0, 1, 0, 0).is(Due.STORE, "copy", 0, -1, 1, 0, 1).is(Due.STORE, "copy", 0, 0, 1, 3, 1)
            .is(Due.STORE, "copy", 0, 0, 1, 0, -1).is(5, "status").is(3, "copy", 0, 0, 0, 0, 3).is(0, "status");
        of("1 NULL (a SHEET that is missing)").with("sheet", 0, 0, 3).with("sheet", 1, 1, 3).with("drop", 1)
            .is(Due.NULL, "copy", 0, 0, 1, 0, 1).is(Due.NULL, "copy", 1, 0, 0, 0, 1).with("sheet", 1, 0, 3).is(1, "copy", 1, 0, 0, 0, 1);
        for (int a = 0; a <= 2; a++) {
            for (int b = 0; b <= 2; b++) {
                of("5 STORE (SHEETS of two LANES)").lay(0, a, 7).lay(1, b, 8)
                    .is(a == b ? 1 : Due.STORE, "copy", 0, 0, 1, 0, 1).is(a == b ? 0 : 5, "status").has(1, a == b ? 7 : 8).has(0, 7);
            }
        }
    }

    private static void copiedAsTheyWere() {
        for (int lane = 0; lane <= 2; lane++) {
            of("n ITEMS of a from i on come to b from j on, as they were ahead: n.").lay(0, lane, 1, -2, 3, -4, 5)
                .is(4, "copy", 0, 0, 0, 1, 4).has(0, 1, 1, -2, 3, -4);
            of("n ITEMS of a from i on come to b from j on, as they were ahead: n.").lay(0, lane, 1, -2, 3, -4, 5)
                .is(4, "copy", 0, 1, 0, 0, 4).has(0, -2, 3, -4, 5, 5);
            of("n ITEMS of a from i on come to b from j on, as they were ahead: n.").lay(0, lane, 1, -2, 3, -4, 5)
                .is(5, "copy", 0, 0, 0, 0, 5).has(0, 1, -2, 3, -4, 5)
                .is(0, "copy", 0, 1, 0, 3, 0).has(0, 1, -2, 3, -4, 5).is(3, "copy", 0, 0, 0, 2, 3).has(0, 1, -2, 1, -2, 3);
            of("n ITEMS of a from i on come to b from j on, as they were ahead: n.").lay(0, lane, 1, -2, 3).lay(1, lane, 9, 9, 9, 9)
                .is(2, "copy", 0, 1, 1, 1, 2).has(1, 9, -2, 3, 9).has(0, 1, -2, 3)
                .with("set", 0, 1, 7).has(1, 9, -2, 3, 9).with("drop", 0).has(1, 9, -2, 3, 9);
        }
        Sentence s = of("n ITEMS of a from i on come to b from j on, as they were ahead: n.").with("sheet", 0, 1, 60);
        for (int i = 0; i < 60; i++) {
            s.with("set", 0, i, i);
        }
        s.is(59, "copy", 0, 0, 0, 1, 59).item(0, 0, 0);
        for (int i = 1; i < 60; i++) {
            s.item(0, i, i - 1);
        }
    }

    private static void drop() {
        of("A SHEET is missing from now on: how many ITEMS it had. BAD; NULL.")
            .is(BAD, "drop", -1).is(BAD, "drop", 8).is(0, "status").is(Due.NULL, "drop", 7).is(1, "status").is(BAD, "drop", 8).is(1, "status")
            .with("sheet", 7, 2, 60).with("sheet", 6, 2, 0).is(60, "drop", 7).is(0, "status").is(1, "count", 0)
            .is(Due.NULL, "set", 7, 0, 0).is(Due.NULL, "closings", 7, 0, 1, 0, 0, 0).is(Due.NULL, "tooMany", 7, 0, 1, 0, 0, 0)
            .is(Due.NULL, "world", 1, 7, 0).is(Due.NULL, "copy", 7, 0, 6, 0, 0).is(Due.NULL, "copy", 6, 0, 7, 0, 0).is(Due.NULL, "drop", 7)
            .is(0, "drop", 6).is(0, "count", 0).is(Due.NULL, "drop", 6).is(4, "sheet", 7, 0, 4).has(7, 0, 0, 0, 0);
    }
}
