/** Promises 18 to 21, with count(5). */
final class ShipsYearsTest {
    private static final Due due = new Due();

    public static void main(String[] args) {
        ship();
        waits();
        closings();
        tooMany();
        due.end();
    }

    private static void ship() {
        SeaGates x = new SeaGates();
        due.is("minute -1", x.ship(-1, 1), SeaGates.BAD);
        due.is("minute 100001", x.ship(100001, 1), SeaGates.BAD);
        due.is("takes 0", x.ship(0, 0), SeaGates.BAD);
        due.is("takes 501", x.ship(0, 501), SeaGates.BAD);
        due.is("none", x.count(5), 0);
        for (int ship = 0; ship < 20; ship++) {
            due.is("its number", x.ship(100000, 500), ship);
        }
        due.is("FULL", x.ship(0, 1), SeaGates.FULL);
        due.is("BAD ahead of FULL", x.ship(0, 0), SeaGates.BAD);
        due.is("twenty", x.count(5), 20);
        due.is("the last waits for all", x.waits(19, 0, 0), 19 * 500);
    }

    private static void waits() {
        SeaGates x = new SeaGates();
        x.ship(20, 10);
        x.ship(10, 5);
        x.ship(20, 7);
        x.ship(0, 15);
        due.is("open: comes first", x.waits(3, 0, 0), 0);
        due.is("open: till that has passed", x.waits(1, 0, 0), 5);
        due.is("open: just free", x.waits(0, 0, 0), 0);
        due.is("open: of two the one told first", x.waits(2, 0, 0), 10);
        due.is("shut as it would begin", x.waits(1, 15, 16), 6);
        due.is("the next ones begin later", x.waits(0, 15, 16), 1);
        due.is("one that has begun ends", x.waits(3, 1, 50), 0);
        due.is("the rest waits", x.waits(2, 1, 50), 45);
        due.is("the minute it is open again is not shut", x.waits(1, 10, 15), 5);
        due.is("from one minute to itself: never", x.waits(3, 0, 0), 0);
        due.is("no such SHIP", x.waits(4, 0, 0), SeaGates.BAD);
        due.is("SHIP -1", x.waits(-1, 0, 0), SeaGates.BAD);
        due.is("from -1", x.waits(0, -1, 0), SeaGates.BAD);
        due.is("to 100001", x.waits(0, 0, 100001), SeaGates.BAD);
        due.is("to ahead of from", x.waits(0, 2, 1), SeaGates.BAD);
        due.is("all", x.waits(3, 0, 100000), 100000);
    }

    private static void closings() {
        SeaGates x = new SeaGates();
        Due.lay(x, 0, -5, 10, 20, 30);
        due.is("SHEET -1", x.closings(-1, 0, 1, 0, 0, 0), SeaGates.BAD);
        due.is("SHEET 8", x.closings(8, 0, 1, 0, 0, 0), SeaGates.BAD);
        due.is("n 0", x.closings(0, 0, 0, 0, 0, 0), SeaGates.BAD);
        due.is("n 61", x.closings(0, 0, 61, 0, 0, 0), SeaGates.BAD);
        due.is("RISE -1", x.closings(0, 0, 1, -1, 0, 0), SeaGates.BAD);
        due.is("RISE 101", x.closings(0, 0, 1, 101, 0, 0), SeaGates.BAD);
        due.is("year -1", x.closings(0, 0, 1, 0, 0, -1), SeaGates.BAD);
        due.is("year 301", x.closings(0, 0, 1, 0, 0, 301), SeaGates.BAD);
        due.is("BAD ahead of NULL", x.closings(1, 0, 0, 0, 0, 0), SeaGates.BAD);
        due.is("NULL ahead of PLACE", x.closings(1, -1, 1, 0, 0, 0), Due.NULL);
        due.is("status NULL", x.status(), 1);
        due.is("PLACE beyond", x.closings(0, 2, 3, 0, 0, 0), Due.PLACE);
        due.is("PLACE below", x.closings(0, -1, 1, 0, 0, 0), Due.PLACE);
        due.is("PLACE MAX", x.closings(0, Integer.MAX_VALUE, 60, 0, 0, 0), Due.PLACE);
        due.is("status PLACE", x.status(), 2);
        due.is("above, not like", x.closings(0, 0, 4, 0, 10, 0), 2);
        due.is("status 0", x.status(), 0);
        due.is("the rise is cut", x.closings(0, 0, 4, 9, 10, 1), 2);
        due.is("by 10", x.closings(0, 0, 4, 9, 10, 2), 3);
        due.is("from 1 on", x.closings(0, 1, 2, 0, 15, 300), 1);
        due.is("the most", x.closings(0, 0, 1, 100, 2994, 300), 1);
        due.is("and one more", x.closings(0, 0, 1, 100, 2995, 300), 0);
        x.sheet(1, 2, 2);
        x.set(1, 0, Integer.MAX_VALUE);
        x.set(1, 1, Integer.MIN_VALUE);
        due.is("no wrap up", x.closings(1, 0, 1, 100, Integer.MAX_VALUE, 1), 1);
        due.is("no wrap down", x.closings(1, 0, 2, 100, Integer.MIN_VALUE, 0), 1);
    }

    private static void tooMany() {
        SeaGates x = new SeaGates();
        Due.lay(x, 0, 10, 20, 30);
        due.is("SHEET 8", x.tooMany(8, 0, 1, 0, 0, 0), SeaGates.BAD);
        due.is("n 0", x.tooMany(0, 0, 0, 0, 0, 0), SeaGates.BAD);
        due.is("n 61", x.tooMany(0, 0, 61, 0, 0, 0), SeaGates.BAD);
        due.is("RISE 101", x.tooMany(0, 0, 1, 101, 0, 0), SeaGates.BAD);
        due.is("m -1", x.tooMany(0, 0, 1, 0, 0, -1), SeaGates.BAD);
        due.is("NULL", x.tooMany(1, 0, 1, 0, 0, 0), Due.NULL);
        due.is("PLACE", x.tooMany(0, 1, 3, 0, 0, 0), Due.PLACE);
        due.is("status PLACE", x.status(), 2);
        due.is("at once", x.tooMany(0, 0, 3, 0, 0, 2), 0);
        due.is("never so many", x.tooMany(0, 0, 3, 100, 0, 3), SeaGates.NONE);
        due.is("NONE is no FINDING", x.status(), 0);
        due.is("m MAX", x.tooMany(0, 0, 3, 100, 0, Integer.MAX_VALUE), SeaGates.NONE);
        for (int year = 0; year <= 300; year++) {
            due.is("year " + year, x.tooMany(0, 2, 1, 10, 29 + year, 0), year);
        }
        due.is("year 301", x.tooMany(0, 2, 1, 10, 29 + 301, 0), SeaGates.NONE);
        due.is("the rise is cut", x.tooMany(0, 0, 1, 3, 10, 0), 4);
    }
}
