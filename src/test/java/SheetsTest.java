/** Promises 1 to 5, with status() and count(0) as they follow from them. */
final class SheetsTest {
    private static final Due due = new Due();

    public static void main(String[] args) {
        newObject();
        sheet();
        set();
        copy();
        drop();
        due.end();
    }

    private static void newObject() {
        SeaGates x = new SeaGates();
        for (int what = 0; what <= 5; what++) {
            due.is("new count(" + what + ")", x.count(what), 0);
        }
        due.is("new status", x.status(), 0);
        for (int sheet = 0; sheet < 8; sheet++) {
            due.is("new drop(" + sheet + ")", x.drop(sheet), Due.NULL);
        }
        due.is("new trace", x.trace(0), SeaGates.NONE);
        due.is("new best", x.best(), 0);
        for (int hour = 0; hour < 8; hour++) {
            due.is("river at first", x.river(hour, 0), 10);
        }
        int[] rules = {1, 1, 300, 200, 50, 5, 10, 3};
        for (int what = 0; what < 8; what++) {
            due.is("rule at first " + what, x.rule(what, 1), rules[what]);
        }
    }

    private static void sheet() {
        SeaGates x = new SeaGates();
        due.is("sheet(-1, 0, 1)", x.sheet(-1, 0, 1), SeaGates.BAD);
        due.is("sheet(8, 0, 1)", x.sheet(8, 0, 1), SeaGates.BAD);
        due.is("sheet(0, -1, 1)", x.sheet(0, -1, 1), SeaGates.BAD);
        due.is("sheet(0, 3, 1)", x.sheet(0, 3, 1), SeaGates.BAD);
        due.is("sheet(0, 0, 61)", x.sheet(0, 0, 61), SeaGates.BAD);
        due.is("sheet(0, 0, MAX)", x.sheet(0, 0, Integer.MAX_VALUE), SeaGates.BAD);
        due.is("BAD ahead of SIZE, SHEET", x.sheet(8, 0, -1), SeaGates.BAD);
        due.is("BAD ahead of SIZE, LANE", x.sheet(0, 3, -1), SeaGates.BAD);
        due.is("BAD leaves status", x.status(), 0);
        due.is("sheet(0, 0, MIN)", x.sheet(0, 0, Integer.MIN_VALUE), Due.SIZE);
        due.is("status SIZE", x.status(), 4);
        due.is("sheet(9, 0, 0) behind SIZE", x.sheet(9, 0, 0), SeaGates.BAD);
        due.is("BAD leaves status SIZE", x.status(), 4);
        due.is("SIZE lays none", x.count(0), 0);
        due.is("sheet(7, 2, 60)", x.sheet(7, 2, 60), 60);
        due.is("status fine", x.status(), 0);
        due.is("sheet(0, 0, 0)", x.sheet(0, 0, 0), 0);
        due.is("none of no ITEMS", x.set(0, 0, 0), Due.PLACE);
        due.is("count", x.count(0), 2);
        x.set(7, 0, 70000);
        due.is("SIZE keeps what is there", x.sheet(7, 0, -1), Due.SIZE);
        due.is("as it was", x.closings(7, 0, 1, 0, 69999, 0), 1);
        due.is("in its place", x.sheet(7, 1, 3), 3);
        due.is("0 at first, anew", x.closings(7, 0, 3, 0, -1, 0) * 10 + x.closings(7, 0, 3, 0, 0, 0), 30);
        due.is("shorter now", x.set(7, 3, 1), Due.PLACE);
        due.is("a LANE anew", x.set(7, 0, 70000), 4464);
        due.is("count stays", x.count(0), 2);
    }

    private static void set() {
        SeaGates x = new SeaGates();
        for (int lane = 0; lane < 3; lane++) {
            x.sheet(lane, lane, 3);
        }
        due.is("byte 127", x.set(0, 0, 127), 127);
        due.is("byte 128", x.set(0, 0, 128), -128);
        due.is("byte 256", x.set(0, 0, 256), 0);
        due.is("byte -129", x.set(0, 0, -129), 127);
        due.is("short 32768", x.set(1, 1, 32768), -32768);
        due.is("short 65536", x.set(1, 1, 65536), 0);
        due.is("short -32769", x.set(1, 1, -32769), 32767);
        due.is("int MIN", x.set(2, 2, Integer.MIN_VALUE), Integer.MIN_VALUE);
        due.is("set(-1)", x.set(-1, 0, 0), SeaGates.BAD);
        due.is("set(8)", x.set(8, 0, 0), SeaGates.BAD);
        due.is("set missing", x.set(3, 99, 0), Due.NULL);
        due.is("status NULL", x.status(), 1);
        due.is("set below", x.set(2, -1, 0), Due.PLACE);
        due.is("status PLACE", x.status(), 2);
        due.is("set beyond", x.set(2, 3, 0), Due.PLACE);
        due.is("set MAX", x.set(2, Integer.MAX_VALUE, 0), Due.PLACE);
        due.is("set MIN", x.set(2, Integer.MIN_VALUE, 0), Due.PLACE);
        due.is("set last", x.set(2, 2, 5), 5);
        due.is("status 0", x.status(), 0);
    }

    /** An ITEM, read by way of copy: a level that it alone is above. */
    private static boolean hasItem(SeaGates x, int sheet, int i, int v) {
        return x.closings(sheet, i, 1, 0, v - 1, 0) == 1 && x.closings(sheet, i, 1, 0, v, 0) == 0;
    }

    private static void has(SeaGates x, String what, int sheet, int... items) {
        for (int i = 0; i < items.length; i++) {
            due.holds(what + ", ITEM " + i + " is " + items[i], hasItem(x, sheet, i, items[i]));
        }
    }

    private static void copy() {
        SeaGates x = new SeaGates();
        Due.lay(x, 0, 1, 2, 3, 4, 5);
        due.is("copy on", x.copy(0, 0, 0, 1, 4), 4);
        has(x, "over itself, onwards", 0, 1, 1, 2, 3, 4);
        due.is("copy back", x.copy(0, 1, 0, 0, 4), 4);
        has(x, "over itself, backwards", 0, 1, 2, 3, 4, 4);
        Due.lay(x, 1, 7, 8);
        due.is("copy two", x.copy(1, 0, 0, 3, 2), 2);
        has(x, "to another", 0, 1, 2, 3, 7, 8);
        has(x, "the first stays", 1, 7, 8);
        due.is("copy none at ends", x.copy(0, 5, 1, 2, 0), 0);
        due.is("status 0", x.status(), 0);
        due.is("i below", x.copy(0, -1, 1, 0, 1), Due.PLACE);
        due.is("j below", x.copy(0, 0, 1, -1, 1), Due.PLACE);
        due.is("n below", x.copy(0, 0, 1, 0, -1), Due.PLACE);
        due.is("i beyond", x.copy(0, 4, 1, 0, 2), Due.PLACE);
        due.is("j beyond", x.copy(0, 0, 1, 1, 2), Due.PLACE);
        due.is("i beyond, none", x.copy(0, 6, 1, 0, 0), Due.PLACE);
        due.is("i MAX", x.copy(0, Integer.MAX_VALUE, 1, 0, 1), Due.PLACE);
        due.is("n MAX", x.copy(0, 1, 1, 1, Integer.MAX_VALUE), Due.PLACE);
        due.is("n MIN", x.copy(0, 1, 1, 1, Integer.MIN_VALUE), Due.PLACE);
        has(x, "PLACE changes nothing", 1, 7, 8);
        x.sheet(2, 2, 5);
        due.is("STORE", x.copy(0, 0, 2, 0, 1), Due.STORE);
        due.is("status STORE", x.status(), 5);
        due.is("STORE of none", x.copy(0, 0, 2, 0, 0), Due.STORE);
        due.is("STORE ahead of PLACE", x.copy(0, -1, 2, 0, 99), Due.STORE);
        has(x, "STORE changes nothing", 2, 0);
        due.is("NULL a", x.copy(3, 0, 0, 0, 1), Due.NULL);
        due.is("NULL b ahead of PLACE", x.copy(0, -1, 3, 0, 1), Due.NULL);
        due.is("BAD a", x.copy(-1, 0, 0, 0, 1), SeaGates.BAD);
        due.is("BAD b ahead of NULL", x.copy(3, 0, 8, 0, 1), SeaGates.BAD);
        due.is("status still NULL", x.status(), 1);
    }

    private static void drop() {
        SeaGates x = new SeaGates();
        Due.lay(x, 4, 1, 2, 3);
        due.is("drop BAD", x.drop(-1), SeaGates.BAD);
        due.is("drop BAD 8", x.drop(8), SeaGates.BAD);
        due.is("drop", x.drop(4), 3);
        due.is("status 0", x.status(), 0);
        due.is("drop again", x.drop(4), Due.NULL);
        due.is("status NULL", x.status(), 1);
        due.is("set behind", x.set(4, 0, 1), Due.NULL);
        due.is("count", x.count(0), 0);
        x.sheet(4, 1, 0);
        due.is("count of an empty one", x.count(0), 1);
        due.is("drop an empty one", x.drop(4), 0);
    }
}
