/** Promises 6 to 13, by cases reckoned by hand. */
final class WorldsTest {
    private static final Due due = new Due();

    public static void main(String[] args) {
        world();
        riverAndRule();
        bestOfOne();
        ties();
        partingWorlds();
        slowBarrier();
        largest();
        shutAt();
        alarm();
        groups();
        due.end();
    }

    private static void world() {
        SeaGates x = new SeaGates();
        Due.lay(x, 0, 0, 1, 2, 3, 4, 5, 6, 1000, 1001, -1);
        due.is("weight 0", x.world(0, 0, 0), SeaGates.BAD);
        due.is("weight 21", x.world(21, 0, 0), SeaGates.BAD);
        due.is("SHEET -1", x.world(1, -1, 0), SeaGates.BAD);
        due.is("SHEET 8", x.world(1, 8, 0), SeaGates.BAD);
        due.is("missing", x.world(1, 5, 0), Due.NULL);
        due.is("status NULL", x.status(), 1);
        due.is("LEVEL 1001", x.world(1, 0, 1), SeaGates.BAD);
        due.is("LEVEL BAD leaves status", x.status(), 1);
        due.is("beyond", x.world(1, 0, 3), Due.PLACE);
        due.is("below", x.world(1, 0, -1), Due.PLACE);
        due.is("i MAX", x.world(1, 0, Integer.MAX_VALUE), Due.PLACE);
        due.is("i MIN", x.world(1, 0, Integer.MIN_VALUE), Due.PLACE);
        due.is("LEVEL -1", x.world(1, 0, 2), SeaGates.BAD);
        due.is("no WORLD yet", x.count(1), 0);
        for (int world = 0; world < 8; world++) {
            due.is("its number", x.world(world == 0 ? 20 : 1, 0, 0), world);
        }
        due.is("status 0", x.status(), 0);
        due.is("weights", x.count(2), 27);
        due.is("PLACE for status", x.set(0, 10, 1), Due.PLACE);
        due.is("FULL", x.world(1, 0, 0), SeaGates.FULL);
        due.is("FULL ahead of NULL", x.world(1, 5, 0), SeaGates.FULL);
        due.is("FULL ahead of PLACE", x.world(1, 0, 99), SeaGates.FULL);
        due.is("BAD ahead of FULL", x.world(0, 0, 0), SeaGates.BAD);
        due.is("FULL leaves status", x.status(), 2);
        x.set(0, 0, 999);
        due.is("LEVELS stay as the SHEET changes", x.hour(0, 0, 2), 0);
    }

    private static void riverAndRule() {
        SeaGates x = new SeaGates();
        due.is("river -1", x.river(-1, 0), SeaGates.BAD);
        due.is("river 8", x.river(8, 0), SeaGates.BAD);
        due.is("river v -1", x.river(0, -1), SeaGates.BAD);
        due.is("river v 101", x.river(0, 101), SeaGates.BAD);
        due.is("river 100", x.river(7, 100), 10);
        due.is("river 0", x.river(7, 0), 100);
        due.is("river was 0", x.river(7, 0), 0);
        due.is("rule -1", x.rule(-1, 1), SeaGates.BAD);
        due.is("rule 8", x.rule(8, 1), SeaGates.BAD);
        for (int what = 0; what < 8; what++) {
            int most = what < 2 ? 3 : 1000;
            int least = what < 2 ? 1 : 0;
            due.is("rule above", x.rule(what, most + 1), SeaGates.BAD);
            due.is("rule below", x.rule(what, least - 1), SeaGates.BAD);
            x.rule(what, most);
            due.is("rule most", x.rule(what, least), most);
            due.is("rule least", x.rule(what, least), least);
        }
    }

    /** The peak of HOUR 3 costs 1000 by 10; an order in HOUR 2 costs 50, HOUR 3 shut 5, and it is opened in HOUR 4. */
    private static void bestOfOne() {
        SeaGates x = new SeaGates();
        Due.world(x, 2, 100, 100, 100, 400, 100, 100, 100, 100);
        due.is("best", x.best(), 2 * (50 + 5));
        int[] told = {0, 0, 1, 0, 2, 0, 0, 0};
        int[] how = {0, 0, 1, 2, 3, 0, 0, 0};
        int[] water = {100, 100, 100, 110, 100, 100, 100, 100};
        int[] lost = {0, 0, 50, 5, 0, 0, 0, 0};
        for (int hour = 0; hour < 8; hour++) {
            due.is("told " + hour, x.hour(0, hour, 0), told[hour]);
            due.is("how " + hour, x.hour(0, hour, 1), how[hour]);
            due.is("water " + hour, x.hour(0, hour, 2), water[hour]);
            due.is("lost " + hour, x.hour(0, hour, 3), lost[hour]);
        }
        due.is("no such WORLD", x.hour(1, 0, 0), SeaGates.BAD);
        due.is("WORLD -1", x.hour(-1, 0, 0), SeaGates.BAD);
        due.is("HOUR -1", x.hour(0, -1, 0), SeaGates.BAD);
        due.is("HOUR 8", x.hour(0, 8, 0), SeaGates.BAD);
        due.is("what -1", x.hour(0, 0, -1), SeaGates.BAD);
        due.is("what 4", x.hour(0, 0, 4), SeaGates.BAD);
    }

    private static void ties() {
        SeaGates x = new SeaGates();
        Due.world(x, 1, 0, 0, 0, 310, 0, 0, 0, 0);
        x.rule(4, 95);
        due.is("to shut costs what not to costs", x.best(), 100);
        for (int hour = 0; hour < 8; hour++) {
            due.is("so it is not told, HOUR " + hour, x.hour(0, hour, 0), 0);
        }
        x.rule(4, 94);
        due.is("one less", x.best(), 99);
        due.is("so it is told", x.hour(0, 2, 0), 1);
        x.rule(5, 0);
        x.rule(4, 0);
        due.is("nothing costs", x.best(), 0);
        due.is("as late as can be", x.hour(0, 1, 0) * 10 + x.hour(0, 2, 0), 1);
        due.is("and never opened", x.hour(0, 7, 1), 2);
    }

    /** Alike till HOUR 2; then one is high in HOUR 3. What is told in HOUR 2 must be told in both. */
    private static void partingWorlds() {
        SeaGates x = new SeaGates();
        Due.world(x, 1, 0, 0, 0, 400, 0, 0, 0, 0);
        Due.world(x, 1, 0, 0, 0, 0, 0, 0, 0, 0);
        due.is("both are told", x.best(), 50 + 5 + 50);
        due.is("WORLD 0 in HOUR 2", x.hour(0, 2, 0), 1);
        due.is("WORLD 1 in HOUR 2", x.hour(1, 2, 0), 1);
        due.is("WORLD 0 stays shut", x.hour(0, 3, 1), 2);
        due.is("WORLD 1 is opened at once", x.hour(1, 3, 0), 2);
        for (int more = 0; more < 3; more++) {
            Due.world(x, 20, 0, 0, 0, 0, 0, 0, 0, 0);
        }
        due.is("too dear for all", x.best(), 1000);
        due.is("none is told", x.hour(0, 2, 0), 0);
        Due.world(x, 1, 1, 0, 0, 400, 0, 0, 0, 0);
        due.is("one that parts at once is told alone", x.best(), 1055);
        due.is("it", x.hour(5, 2, 0), 1);
        due.is("not the others", x.hour(0, 2, 0) + x.hour(1, 2, 0), 0);
    }

    private static void slowBarrier() {
        SeaGates x = new SeaGates();
        Due.world(x, 1, 0, 0, 0, 400, 0, 400, 0, 0);
        x.rule(0, 3);
        x.rule(1, 3);
        x.rule(5, 0);
        due.is("three HOURS ahead, and shut for both", x.best(), 50);
        for (int hour = 0; hour < 8; hour++) {
            due.is("how, HOUR " + hour, x.hour(0, hour, 1), hour < 3 ? 1 : 2);
        }
        x.rule(5, 5);
        due.is("OPENING for three HOURS", x.best(), 50 + 3 * 5);
        due.is("told to open", x.hour(0, 6, 0), 2);
        due.is("still OPENING", x.hour(0, 7, 1), 3);
        x.rule(1, 1);
        x.rule(2, 400);
        due.is("no harm", x.best(), 0);
    }

    private static void largest() {
        SeaGates x = new SeaGates();
        for (int world = 0; world < 8; world++) {
            Due.world(x, 20, 1000, 1000, 1000, 1000, 1000, 1000, 1000, 1000);
        }
        x.rule(2, 0);
        x.rule(3, 0);
        x.rule(4, 1000);
        x.rule(5, 1000);
        x.rule(6, 1000);
        x.rule(7, 1000);
        for (int hour = 0; hour < 8; hour++) {
            x.river(hour, 100);
        }
        due.is("never", x.shutAt(8), 160L * 8 * 1000000);
        due.is("best", x.best(), 160L * 8 * 1000000);
        long shut = 1000 + 1000000;
        for (int hour = 1; hour < 8; hour++) {
            shut += 1000 + 1000L * (1000 + 100 * hour);
        }
        due.is("shut at once", x.shutAt(0), 160 * shut);
    }

    private static void shutAt() {
        SeaGates x = new SeaGates();
        due.is("shutAt(-1)", x.shutAt(-1), -1000001L);
        due.is("shutAt(9)", x.shutAt(9), -1000001L);
        due.is("without WORLDS", x.shutAt(3), 0);
        Due.world(x, 2, 195, 195, 310, 195, 195, 195, 195, 195);
        due.is("never", x.shutAt(8), 200);
        due.is("in the last HOUR", x.shutAt(7), 2 * (100 + 50));
        due.is("in HOUR 5", x.shutAt(5), 2 * (100 + 50 + 5 + 15 + 5 + 45));
        due.is("in HOUR 6", x.shutAt(6), 2 * (100 + 50 + 5 + 15));
        x.rule(0, 3);
        due.is("slow, in HOUR 4", x.shutAt(4), 2 * (100 + 50 + 5 + 15));
        due.is("slow, in HOUR 5", x.shutAt(5), 2 * (100 + 50));
    }

    private static void alarm() {
        SeaGates x = new SeaGates();
        due.is("without WORLDS", x.alarm(), 8);
        Due.world(x, 1, 0, 0, 0, 0, 0, 300, 0, 0);
        due.is("none above", x.alarm(), 8);
        Due.world(x, 1, 0, 0, 0, 0, 0, 0, 0, 301);
        due.is("HOUR 7", x.alarm(), 6);
        Due.world(x, 1, 0, 0, 301, 0, 0, 0, 0, 0);
        due.is("HOUR 2 in one", x.alarm(), 1);
        x.rule(0, 2);
        due.is("two HOURS", x.alarm(), 0);
        x.rule(0, 3);
        due.is("three HOURS", x.alarm(), SeaGates.NONE);
        x.rule(2, 301);
        due.is("safe", x.alarm(), 8);
        x.rule(0, 1);
        x.rule(2, 299);
        Due.world(x, 1, 300, 0, 0, 0, 0, 0, 0, 0);
        due.is("HOUR 0", x.alarm(), SeaGates.NONE);
    }

    private static void groups() {
        SeaGates x = new SeaGates();
        due.is("without WORLDS", x.groups(7), 0);
        due.is("groups(-1)", x.groups(-1), SeaGates.BAD);
        due.is("groups(8)", x.groups(8), SeaGates.BAD);
        Due.world(x, 1, 5, 5, 5, 5, 5, 5, 5, 5);
        Due.world(x, 1, 5, 6, 5, 5, 5, 5, 5, 5);
        Due.world(x, 1, 5, 5, 5, 5, 5, 5, 5, 6);
        Due.world(x, 1, 5, 5, 5, 5, 5, 5, 5, 5);
        Due.world(x, 1, 6, 6, 5, 5, 5, 5, 5, 5);
        int[] groups = {2, 3, 3, 3, 3, 3, 3, 4};
        for (int hour = 0; hour < 8; hour++) {
            due.is("groups(" + hour + ")", x.groups(hour), groups[hour]);
        }
    }
}
