/** Tells every call whose answer is not the one that is due, and ends with exit code 1 if there was one. */
final class Due {
    static final int NULL = -1000011, PLACE = -1000012, KIND = -1000013, SIZE = -1000014, STORE = -1000015;

    private int calls = 0;
    private int wrong = 0;

    void is(String call, long got, long want) {
        calls++;
        if (got != want) {
            wrong++;
            System.out.println(call + " answered " + got + ", due is " + want);
        }
    }

    void holds(String what, boolean held) {
        calls++;
        if (!held) {
            wrong++;
            System.out.println("does not hold: " + what);
        }
    }

    int wrong() {
        return wrong;
    }

    void end() {
        System.out.println(wrong == 0 ? calls + " answers are as due" : wrong + " answers are not as due");
        if (wrong != 0) {
            System.exit(1);
        }
    }

    /** Lays a SHEET of shorts with these ITEMS. */
    static void lay(SeaGates x, int sheet, int... items) {
        x.sheet(sheet, 1, items.length);
        for (int i = 0; i < items.length; i++) {
            x.set(sheet, i, items[i]);
        }
    }

    /** A WORLD with these LEVELS, by way of SHEET 7. */
    static int world(SeaGates x, int weight, int... levels) {
        lay(x, 7, levels);
        return x.world(weight, 7, 0);
    }
}
