/** The edges of promises 6 to 13 and of what the document says of WORLDS and THE BARRIER, sentence by sentence. */
final class WorldsEdgesTest {
    private static final Due due = new Due();
    private static final int BAD = SeaGates.BAD, NONE = SeaGates.NONE, FULL = SeaGates.FULL;
    private static final int MIN = Integer.MIN_VALUE, MAX = Integer.MAX_VALUE;
    private static final int[] NO_HOURS = {MIN, -1, 8, MAX};
    private static final int SAFE = 2, LIMIT = 3, ORDER = 4, SHUT_HOUR = 5, SEA = 6, BEHIND = 7;

    public static void main(String[] args) {
        hours();
        worlds();
        weights();
        levels();
        levelsOfLanes();
        levelPlaces();
        worldRefusals();
        river();
        rules();
        rulesAtFirst();
        withoutWorlds();
        whatOfHour();
        shuttingHours();
        openingHours();
        aboveSafe();
        aboveLimit();
        orderCost();
        riverFills();
        tooLateToShut();
        ties();
        likeLevels();
        shutAt();
        greatestLoss();
        alarm();
        groups();
        lossOfPartedWorlds();
        bestAnew();
        due.end();
    }

    private static Sentence of(String words) {
        return new Sentence(due, words);
    }

    private static void hours() {
        for (int hour : NO_HOURS) {
            of("HOURS 0 .. 7.").world(1, 0, 0, 0, 0, 0, 0, 0, 0)
                .is(BAD, "river", hour, 0).is(BAD, "groups", hour)
                .is(BAD, "hour", 0, hour, 0).is(BAD, "hour", 0, hour, 1).is(BAD, "hour", 0, hour, 2).is(BAD, "hour", 0, hour, 3);
        }
        Sentence s = of("HOURS 0 .. 7.").world(1, 0, 1, 2, 3, 4, 5, 6, 7);
        for (int hour = 0; hour <= 7; hour++) {
            s.is(10, "river", hour, hour).is(1, "groups", hour).is(hour, "hour", 0, hour, 2);
        }
    }

    private static void worlds() {
        Sentence s = of("WORLDS 0 .. 7 (8 at most)").with("sheet", 0, 0, 8);
        for (int world = 0; world < 8; world++) {
            s.is(BAD, "hour", world, 0, 0).is(world, "world", 1, 0, 0).is(0, "hour", world, 0, 0).is(world + 1, "count", 1);
            s.is(BAD, "hour", -1, 0, 0).is(BAD, "hour", MIN, 0, 0).is(BAD, "hour", MAX, 0, 0);
        }
        s.is(BAD, "hour", 8, 0, 0).is(FULL, "world", 1, 0, 0).is(FULL, "world", 20, 0, 0).is(8, "count", 1).is(8, "count", 2);
        s.is(BAD, "hour", 8, 0, 0);
    }

    private static void weights() {
        of("a weight 1 to 20").with("sheet", 0, 0, 8)
            .is(BAD, "world", 0, 0, 0).is(BAD, "world", 21, 0, 0).is(BAD, "world", -1, 0, 0).is(BAD, "world", MIN, 0, 0)
            .is(BAD, "world", MAX, 0, 0).is(0, "count", 1).is(0, "count", 2)
            .is(0, "world", 1, 0, 0).is(1, "count", 2).is(1, "world", 20, 0, 0).is(21, "count", 2);
        Sentence s = of("2 all weights").with("sheet", 0, 0, 8);
        for (int world = 1; world <= 8; world++) {
            s.with("world", 20, 0, 0).is(20 * world, "count", 2);
        }
        // A weight counts as often as it says: HOUR 0 is 1 above SAFE, that is 10.
        of("the sum over all WORLDS of weight times all that is lost in all HOURS")
            .world(1, 301, 0, 0, 0, 0, 0, 0, 0).is(10, "best").world(20, 301, 0, 0, 0, 0, 0, 0, 0).is(210, "best").is(210, "shutAt", 8)
            .is(10, "hour", 1, 0, 3);
    }

    private static void levels() {
        for (int hour = 0; hour <= 7; hour++) {
            of("LEVELS of the sea, 0 to 1000, one for each HOUR").with("sheet", 0, 1, 8).with("rule", SAFE, 1000)
                .with("set", 0, hour, -1).is(BAD, "world", 1, 0, 0).with("set", 0, hour, 1001).is(BAD, "world", 1, 0, 0).is(0, "count", 1)
                .with("set", 0, hour, 1000).is(0, "world", 1, 0, 0).with("set", 0, hour, 0).is(1, "world", 1, 0, 0)
                .is(1000, "hour", 0, hour, 2).is(0, "hour", 1, hour, 2);
        }
        // Only the 8 ITEMS are looked at: the ones beside them are no LEVELS.
        of("LEVELS being 8 ITEMS of a SHEET from i on").lay(0, 1, -1, 1, 2, 3, 4, 5, 6, 7, 8, 1001)
            .is(BAD, "world", 1, 0, 0).is(BAD, "world", 1, 0, 2).is(0, "world", 1, 0, 1).is(1, "hour", 0, 0, 2).is(8, "hour", 0, 7, 2);
        of("LEVELS being 8 ITEMS of a SHEET from i on").lay(0, 1, 1, 2, 3, 4, 5, 6, 7, 8)
            .is(0, "world", 1, 0, 0).with("set", 0, 0, 900).is(1, "hour", 0, 0, 2).with("drop", 0).is(8, "hour", 0, 7, 2).is(1, "count", 1);
    }

    private static void levelsOfLanes() {
        of("LEVELS of the sea, 0 to 1000").with("sheet", 0, 0, 8)
            .with("set", 0, 3, 127).is(0, "world", 1, 0, 0).is(127, "hour", 0, 3, 2)
            .with("set", 0, 3, 128).is(BAD, "world", 1, 0, 0).with("set", 0, 3, 256).is(1, "world", 1, 0, 0).is(0, "hour", 1, 3, 2);
        of("LEVELS of the sea, 0 to 1000").with("sheet", 0, 2, 8)
            .with("set", 0, 3, MAX).is(BAD, "world", 1, 0, 0).with("set", 0, 3, MIN).is(BAD, "world", 1, 0, 0)
            .with("set", 0, 3, 65536).is(BAD, "world", 1, 0, 0).with("set", 0, 3, 1000).is(0, "world", 1, 0, 0);
    }

    private static void levelPlaces() {
        of("8 ITEMS of a SHEET from i on").with("sheet", 0, 0, 8).with("sheet", 1, 0, 7).with("sheet", 2, 0, 60).with("sheet", 3, 0, 0)
            .is(Due.PLACE, "world", 1, 0, 1).is(Due.PLACE, "world", 1, 0, -1).is(Due.PLACE, "world", 1, 1, 0).is(Due.PLACE, "world", 1, 1, -1)
            .is(Due.PLACE, "world", 1, 2, 53).is(Due.PLACE, "world", 1, 2, 60).is(Due.PLACE, "world", 1, 3, 0)
            .is(Due.PLACE, "world", 1, 2, MAX).is(Due.PLACE, "world", 1, 2, MIN).is(Due.PLACE, "world", 1, 2, MAX - 7).is(0, "count", 1)
            .is(0, "world", 1, 0, 0).is(1, "world", 1, 2, 52).is(2, "world", 1, 2, 0);
    }

    private static void worldRefusals() {
        // On SHEET 0 the LEVEL 1001 is BAD; SHEET 1 is missing.
        of("BAD: weight, SHEET; FULL: 8; NULL; PLACE; then BAD: a LEVEL.").lay(0, 1, 0, 0, 0, 0, 0, 0, 0, 0, 1001)
            .is(BAD, "world", 0, 1, 0).is(BAD, "world", 0, 0, 2).is(BAD, "world", 1, 8, 0).is(BAD, "world", 1, -1, 99).is(0, "status")
            .is(Due.NULL, "world", 1, 1, -1).is(1, "status")
            .is(Due.PLACE, "world", 1, 0, 2).is(2, "status")
            .is(BAD, "world", 1, 0, 1).is(2, "status").is(0, "world", 1, 0, 0).is(0, "status");
        Sentence s = of("BAD: weight, SHEET; FULL: 8; NULL; PLACE; then BAD: a LEVEL.").lay(0, 1, 0, 0, 0, 0, 0, 0, 0, 0, 1001);
        for (int world = 0; world < 8; world++) {
            s.is(world, "world", 1, 0, 0);
        }
        s.is(Due.NULL, "drop", 1).is(BAD, "world", 0, 0, 0).is(BAD, "world", 21, 0, 0).is(BAD, "world", 1, 8, 0).is(BAD, "world", 1, -1, 0);
        s.is(FULL, "world", 1, 1, 0).is(FULL, "world", 1, 0, 2).is(FULL, "world", 1, 0, -1).is(FULL, "world", 1, 0, 1).is(FULL, "world", 1, 0, 0);
        s.is(1, "status").is(8, "count", 1);
    }

    private static void river() {
        for (int hour = 0; hour <= 7; hour++) {
            of("RIVER: what comes behind the barrier in each HOUR, 0 to 100 (10 at first).")
                .is(BAD, "river", hour, -1).is(BAD, "river", hour, 101).is(BAD, "river", hour, MIN).is(BAD, "river", hour, MAX)
                .is(10, "river", hour, 100).is(100, "river", hour, 0).is(0, "river", hour, 1).is(1, "river", hour, 1)
                .is(10, "river", (hour + 1) % 8, 5).is(1, "river", hour, 1);
        }
        of("RIVER of an HOUR: what it was. BAD.").is(BAD, "river", 8, 101).is(BAD, "river", -1, -1).is(BAD, "river", 8, 100).is(0, "status");
    }

    private static void rules() {
        for (int what = 2; what <= 7; what++) {
            of("RULES, 0 to 1000 each").is(BAD, "rule", what, -1).is(BAD, "rule", what, 1001).is(BAD, "rule", what, MIN).is(BAD, "rule", what, MAX)
                .with("rule", what, 1000).is(1000, "rule", what, 0).is(0, "rule", what, 999).is(999, "rule", what, 1);
        }
        of("0 SHUTS: HOURS till it is shut (1 to 3; at first 1)")
            .is(BAD, "rule", 0, 0).is(BAD, "rule", 0, 4).is(BAD, "rule", 0, -1).is(BAD, "rule", 0, MIN).is(BAD, "rule", 0, 1000)
            .is(1, "rule", 0, 3).is(3, "rule", 0, 2).is(2, "rule", 0, 1).is(1, "rule", 0, 1);
        of("1 OPENS (1 to 3; 1)")
            .is(BAD, "rule", 1, 0).is(BAD, "rule", 1, 4).is(BAD, "rule", 1, -1).is(BAD, "rule", 1, MAX).is(BAD, "rule", 1, 1000)
            .is(1, "rule", 1, 3).is(3, "rule", 1, 2).is(2, "rule", 1, 1).is(1, "rule", 1, 1);
        of("A RULE: what it was. BAD.").is(BAD, "rule", -1, 1).is(BAD, "rule", 8, 1).is(BAD, "rule", MIN, 1).is(BAD, "rule", MAX, 1)
            .is(BAD, "rule", 8, 1001).is(0, "status");
    }

    private static void rulesAtFirst() {
        of("2 SAFE level of the sea (300); 3 LIMIT of the water behind (200); 4 cost of an order to shut (50); 5 cost of an HOUR shut (5); "
            + "6 harm by each that the sea, 7 that the water behind is above (10, 3).")
            .is(1, "rule", 0, 2).is(1, "rule", 1, 2).is(300, "rule", SAFE, 2).is(200, "rule", LIMIT, 3).is(50, "rule", ORDER, 4)
            .is(5, "rule", SHUT_HOUR, 6).is(10, "rule", SEA, 7).is(3, "rule", BEHIND, 8)
            // each has a place of its own
            .is(2, "rule", 0, 1).is(2, "rule", 1, 1).is(2, "rule", SAFE, 0).is(3, "rule", LIMIT, 0).is(4, "rule", ORDER, 0)
            .is(6, "rule", SHUT_HOUR, 0).is(7, "rule", SEA, 0).is(8, "rule", BEHIND, 0);
    }

    private static void withoutWorlds() {
        of("LOSS of BEST; 0 without WORLDS.").is(0, "best").with("rule", SAFE, 0).with("rule", LIMIT, 0).with("river", 0, 100).is(0, "best");
        Sentence s = of("8: no HOUR is like that").is(8, "alarm").with("rule", SAFE, 0).is(8, "alarm").with("rule", 0, 3).is(8, "alarm");
        for (int hour = 0; hour <= 7; hour++) {
            s.is(0, "groups", hour).is(0, "shutAt", hour).is(BAD, "hour", 0, hour, 0);
        }
        s.is(0, "shutAt", 8);
    }

    private static void whatOfHour() {
        of("3 what is lost in it (the cost of an order to shut, too). BAD.").world(1, 100, 100, 100, 100, 100, 100, 100, 100)
            .is(0, "hour", 0, 0, 0).is(0, "hour", 0, 0, 1).is(100, "hour", 0, 0, 2).is(0, "hour", 0, 0, 3)
            .is(BAD, "hour", 0, 0, -1).is(BAD, "hour", 0, 0, 4).is(BAD, "hour", 0, 0, MIN).is(BAD, "hour", 0, 0, MAX)
            .is(BAD, "hour", 0, 7, 4).is(BAD, "hour", 1, 0, 4).is(BAD, "hour", 1, 8, 0).is(0, "status");
    }

    /** High in one HOUR alone, so that it is told SHUTS HOURS ahead of it, if that can be. */
    private static void shuttingHours() {
        for (int shuts = 1; shuts <= 3; shuts++) {
            for (int high = 0; high <= 7; high++) {
                int[] levels = new int[8];
                levels[high] = 1000;
                Sentence s = of("SHUTTING for SHUTS HOURS, this one the first").world(1, levels).with("rule", 0, shuts);
                boolean inTime = high >= shuts;
                s.is(inTime ? 55 : 7000, "best");
                for (int hour = 0; hour <= 7; hour++) {
                    int how = !inTime || hour < high - shuts ? 0 : hour < high ? 1 : hour == high ? 2 : hour == high + 1 ? 3 : 0;
                    int told = inTime && hour == high - shuts ? 1 : inTime && hour == high + 1 ? 2 : 0;
                    s.is(told, "hour", 0, hour, 0).is(how, "hour", 0, hour, 1);
                    s.is(how == 2 ? 10 : levels[hour], "hour", 0, hour, 2);
                    s.is(told == 1 ? 50 : how == 2 ? 5 : hour == high ? 7000 : 0, "hour", 0, hour, 3);
                }
            }
        }
    }

    /** High in HOUR 1, shut from then; the water behind grows, so that it is opened at once, for OPENS HOURS. */
    private static void openingHours() {
        for (int opens = 1; opens <= 3; opens++) {
            Sentence s = of("OPENING for OPENS HOURS, this one the first").world(1, 0, 1000, 0, 0, 0, 0, 0, 0).with("rule", 1, opens);
            s.is(55, "best").is(1, "hour", 0, 0, 0).is(2, "hour", 0, 1, 1).is(10, "hour", 0, 1, 2).is(2, "hour", 0, 2, 0);
            for (int hour = 2; hour <= 7; hour++) {
                s.is(hour < 2 + opens ? 3 : 0, "hour", 0, hour, 1).is(0, "hour", 0, hour, 2).is(0, "hour", 0, hour, 3);
            }
            // High again in the HOUR in which it is just OPEN again: it can be told to shut, but is not SHUT in it.
            int[] levels = {0, 1000, 0, 0, 0, 0, 0, 0};
            levels[2 + opens] = 302;
            of("(Behind its last HOUR, SHUTTING is SHUT, OPENING is OPEN.)").world(1, levels).with("rule", 1, opens).with("rule", SHUT_HOUR, 1000)
                .is(50 + 1000 + 20, "best").is(0, "hour", 0, 2 + opens, 1).is(20, "hour", 0, 2 + opens, 3).is(302, "hour", 0, 2 + opens, 2);
        }
        // OPENING and high: the water behind is as the sea, and the sea does harm.
        of("else the water behind is as the sea, and there is lost harm by what the sea is above SAFE").world(1, 0, 1000, 301, 0, 0, 0, 0, 0)
            .with("rule", SHUT_HOUR, 100).is(50 + 100 + 10, "best").is(3, "hour", 0, 2, 1).is(301, "hour", 0, 2, 2).is(10, "hour", 0, 2, 3);
        // SHUTTING and high: likewise, and the order's cost with it.
        of("else the water behind is as the sea, and there is lost harm by what the sea is above SAFE").world(1, 301, 1000, 0, 0, 0, 0, 0, 0)
            .is(50 + 10 + 5 + 3 * 111, "best").is(1, "hour", 0, 0, 1).is(301, "hour", 0, 0, 2).is(60, "hour", 0, 0, 3)
            .is(311, "hour", 0, 1, 2).is(338, "hour", 0, 1, 3);
    }

    private static void aboveSafe() {
        of("harm by what the sea is above SAFE").world(1, 300, 0, 0, 0, 0, 0, 0, 0).is(0, "best").is(0, "hour", 0, 0, 3)
            .with("rule", SAFE, 299).is(10, "best").is(10, "hour", 0, 0, 3).with("rule", SAFE, 0).is(3000, "best")
            .with("rule", SAFE, 1000).is(0, "best").with("rule", SAFE, 299).with("rule", SEA, 0).is(0, "best")
            .with("rule", SEA, 1000).is(1000, "best");
        of("harm by what the sea is above SAFE").world(1, 1000, 0, 0, 0, 0, 0, 0, 0).with("rule", SAFE, 1000).is(0, "best")
            .with("rule", SAFE, 999).is(10, "best").with("rule", SAFE, 0).with("rule", SEA, 1000).is(1000000, "hour", 0, 0, 3);
    }

    /** Told in HOUR 0 with 190 behind, it is SHUT in HOUR 1 with 200, in HOUR 2 with 210 and so on till 260. */
    private static void aboveLimit() {
        int[] levels = {190, 0, 0, 0, 0, 0, 0, 0};
        of("harm by what the water behind is above LIMIT").world(1, levels).with("rule", SHUT_HOUR, 0).with("rule", ORDER, 0)
            .is(3 * (10 + 20 + 30 + 40 + 50 + 60), "shutAt", 0).with("rule", LIMIT, 199).is(3 * (1 + 11 + 21 + 31 + 41 + 51 + 61), "shutAt", 0)
            .with("rule", LIMIT, 260).is(0, "shutAt", 0).with("rule", LIMIT, 259).is(3, "shutAt", 0).with("rule", BEHIND, 0).is(0, "shutAt", 0)
            .with("rule", BEHIND, 1000).is(1000, "shutAt", 0).with("rule", LIMIT, 1000).is(0, "shutAt", 0);
    }

    private static void orderCost() {
        // Told or not: 10 of harm in HOUR 1 against the order and an HOUR shut.
        of("it may be told to shut (its cost)").world(1, 0, 301, 0, 0, 0, 0, 0, 0).with("rule", SHUT_HOUR, 0)
            .with("rule", ORDER, 9).is(9, "best").is(1, "hour", 0, 0, 0).is(9, "hour", 0, 0, 3)
            .with("rule", ORDER, 10).is(10, "best").is(0, "hour", 0, 0, 0).is(0, "hour", 0, 0, 3)
            .with("rule", ORDER, 0).is(0, "best").is(1, "hour", 0, 0, 0).is(0, "hour", 0, 0, 3);
        // To open costs nothing.
        of("3 what is lost in it (the cost of an order to shut, too)").world(1, 0, 1000, 0, 0, 0, 0, 0, 0).with("rule", ORDER, 1000)
            .is(1005, "best").is(1000, "hour", 0, 0, 3).is(2, "hour", 0, 2, 0).is(0, "hour", 0, 2, 3);
    }

    private static void riverFills() {
        Sentence s = of("the water behind is more by the RIVER").world(1, 7, 1000, 1000, 1000, 1000, 1000, 1000, 1000);
        for (int hour = 0; hour <= 7; hour++) {
            s.with("river", hour, hour == 0 ? 100 : hour == 2 ? 0 : hour);
        }
        // The RIVER of HOUR 0, in which it is SHUTTING, comes to nothing.
        int[] water = {7, 8, 8, 11, 15, 20, 26, 33};
        for (int hour = 0; hour <= 7; hour++) {
            s.is(water[hour], "hour", 0, hour, 2);
        }
    }

    /** What is high in HOUR 0 is not kept out, and an order in the last HOURS comes to little or no HOUR shut. */
    private static void tooLateToShut() {
        for (int shuts = 1; shuts <= 3; shuts++) {
            Sentence s = of("It is OPEN as HOUR 0 begins.").world(1, 1000, 0, 0, 0, 0, 0, 0, 0).with("rule", 0, shuts).is(7000, "best");
            s.is(0, "hour", 0, 0, 0).is(0, "hour", 0, 0, 1).is(7000, "hour", 0, 0, 3).is(NONE, "alarm");
            s.is(7050, "shutAt", 7).is(shuts == 1 ? 7055 : 7050, "shutAt", 6).is(shuts == 3 ? 7050 : shuts == 2 ? 7055 : 7060, "shutAt", 5);
        }
    }

    private static void ties() {
        String words = "of several the one that, HOUR by HOUR, does not tell wherever that can be";
        Sentence never = of(words).world(1, 0, 0, 0, 0, 0, 0, 0, 0);
        for (int what = ORDER; what <= BEHIND; what++) {
            never.with("rule", what, 0);
        }
        never.is(0, "best");
        for (int hour = 0; hour <= 7; hour++) {
            never.is(0, "hour", 0, hour, 0).is(0, "hour", 0, hour, 1);
        }
        // High in HOUR 4; orders and HOURS shut cost nothing: told as late as can be, and not to open.
        Sentence late = of(words).world(1, 0, 0, 0, 0, 1000, 0, 0, 0).with("rule", ORDER, 0).with("rule", SHUT_HOUR, 0).is(0, "best");
        for (int hour = 0; hour <= 7; hour++) {
            late.is(hour == 3 ? 1 : 0, "hour", 0, hour, 0).is(hour < 3 ? 0 : hour == 3 ? 1 : 2, "hour", 0, hour, 1);
        }
        // High in HOURS 1 and 4: to open in HOUR 2 and to shut anew in HOUR 3 costs 10, as do two HOURS shut.
        Sentence stays = of(words).world(1, 0, 1000, 0, 0, 1000, 0, 0, 0).with("rule", ORDER, 10).is(10 + 4 * 5, "best");
        stays.is(0, "hour", 0, 2, 0).is(0, "hour", 0, 3, 0).is(2, "hour", 0, 5, 0);
        of(words).world(1, 0, 1000, 0, 0, 1000, 0, 0, 0).with("rule", ORDER, 9).is(9 + 5 + 9 + 5, "best").is(2, "hour", 0, 2, 0)
            .is(1, "hour", 0, 3, 0);
    }

    private static void likeLevels() {
        // Alike till HOUR 1: what is told in it is told in both, though it serves but one.
        String words = "in WORLDS with like LEVELS till then alike";
        of(words).world(1, 0, 0, 1000, 0, 0, 0, 0, 0).world(1, 0, 0, 0, 0, 0, 0, 0, 0)
            .is(105, "best").is(1, "hour", 0, 1, 0).is(1, "hour", 1, 1, 0).is(2, "hour", 0, 2, 1).is(2, "hour", 1, 2, 0);
        // That HOUR's LEVEL is among those that have shown: they part in HOUR 1, and one alone is told in it.
        of("that HOUR's among them").world(1, 0, 1, 1000, 0, 0, 0, 0, 0).world(1, 0, 0, 0, 0, 0, 0, 0, 0)
            .is(55, "best").is(1, "hour", 0, 1, 0).is(0, "hour", 1, 1, 0);
        // What parted earlier stays parted, though their LEVELS are like in that HOUR.
        of(words).world(1, 1, 0, 1000, 0, 0, 0, 0, 0).world(1, 0, 0, 0, 0, 0, 0, 0, 0)
            .is(55, "best").is(1, "hour", 0, 1, 0).is(0, "hour", 1, 1, 0);
    }

    /** Each group's LOSS counts once, in whatever HOUR it parts, and each of its parts with its own weights. */
    private static void lossOfPartedWorlds() {
        String words = "the sum over all WORLDS of weight times all that is lost in all HOURS";
        for (int parts = 1; parts <= 7; parts++) {
            // No harm but in HOUR 0, and in HOUR 7, by 1 and by 2: too little to shut for.
            int[] one = {301, 0, 0, 0, 0, 0, 0, 301};
            int[] other = {301, 0, 0, 0, 0, 0, 0, 302};
            int[] third = {301, 0, 0, 0, 0, 0, 0, 302};
            other[parts] = parts == 7 ? 302 : 5;
            third[parts] = parts == 7 ? 303 : 6;
            int thirdLost = parts == 7 ? 30 : 20;
            of(words).world(1, one).is(20, "best").world(2, other).is(20 + 2 * 30, "best").world(3, third).is(20 + 60 + 3 * (10 + thirdLost), "best")
                .is(20 + 60 + 3 * (10 + thirdLost), "shutAt", 8).world(1, one).is(20 + 60 + 3 * (10 + thirdLost) + 20, "best")
                .is(1, "groups", parts - 1).is(3, "groups", parts);
        }
    }

    /** What has been answered once is reckoned anew as a WORLD, the RIVER or a RULE changes, and stays where that is refused. */
    private static void bestAnew() {
        of("RIVER of an HOUR: what it was.").world(1, 0, 1000, 0, 0, 0, 0, 0, 0).is(55, "best").is(10, "hour", 0, 1, 2)
            .with("river", 1, 100).is(55, "best").is(100, "hour", 0, 1, 2).with("rule", LIMIT, 99).is(58, "best").is(8, "hour", 0, 1, 3)
            .with("river", 1, 99).is(55, "best").is(99, "hour", 0, 1, 2).with("river", 1, 101).is(55, "best").is(99, "hour", 0, 1, 2)
            .with("rule", ORDER, 51).is(56, "best").with("rule", ORDER, 1001).is(56, "best")
            .world(2, 0, 1000, 0, 0, 0, 0, 0, 0).is(168, "best").with("world", 21, 7, 0).is(168, "best");
    }

    private static void shutAt() {
        of("tells to shut at an HOUR (0 to 8; 8: never) in all WORLDS, and never to open").world(2, 0, 0, 0, 0, 0, 0, 0, 301)
            .is(BAD, "shutAt", -1).is(BAD, "shutAt", 9).is(BAD, "shutAt", MIN).is(BAD, "shutAt", MAX)
            .is(20, "shutAt", 8).is(2 * (50 + 10), "shutAt", 7).is(2 * (50 + 5), "shutAt", 6).is(2 * (50 + 7 * 5), "shutAt", 0)
            .with("rule", 0, 2).is(2 * (50 + 10), "shutAt", 6).is(2 * (50 + 5), "shutAt", 5)
            .with("rule", 0, 3).is(2 * (50 + 10), "shutAt", 5).is(2 * (50 + 5), "shutAt", 4).is(2 * (50 + 5 * 5), "shutAt", 0)
            .world(20, 0, 0, 0, 0, 0, 0, 0, 0).is(2 * (50 + 5) + 20 * (50 + 5), "shutAt", 4).is(20, "shutAt", 8);
        due.holds("BAD as a long", new SeaGates().shutAt(9) == -1000001L);
    }

    /** 8 WORLDS of weight 20, with up to 1,701,000 lost in an HOUR: a LOSS of 1,729,280,000. */
    private static void greatestLoss() {
        SeaGates x = new SeaGates();
        for (int world = 0; world < 8; world++) {
            Due.world(x, 20, 1000, 1000, 1000, 1000, 1000, 1000, 1000, 1000);
        }
        for (int hour = 0; hour < 8; hour++) {
            x.river(hour, 100);
        }
        for (int what = ORDER; what <= BEHIND; what++) {
            x.rule(what, 1000);
        }
        x.rule(SAFE, 0);
        x.rule(LIMIT, 0);
        long behind = 0;
        for (int hour = 1; hour <= 7; hour++) {
            behind += 1000 + 1000 * (1000L + 100 * hour);
        }
        due.is("the greatest LOSS of one order", x.shutAt(0), 160 * (1000 + 1000000 + behind));
        due.is("the greatest LOSS of none", x.shutAt(8), 160L * 8 * 1000000);
        due.is("the greatest LOSS of BEST", x.best(), 160L * 8 * 1000000);
        x.rule(LIMIT, 1000);
        x.rule(SEA, 1000);
        due.is("and where it is shut: 100 above LIMIT in HOUR 1, then more", x.shutAt(0), 160L * (1001000 + 7 * 1000 + 1000 * 100 * 28));
    }

    private static void alarm() {
        for (int shuts = 1; shuts <= 3; shuts++) {
            for (int high = 0; high <= 7; high++) {
                int[] levels = new int[8];
                levels[high] = 301;
                of("ALARM: the latest HOUR in which it can be told to shut").world(1, levels).with("rule", 0, shuts)
                    .is(high >= shuts ? high - shuts : NONE, "alarm").with("rule", SAFE, 301).is(8, "alarm");
            }
        }
        of("so that it is SHUT in each HOUR in which the sea is above SAFE in some WORLD")
            .world(1, 0, 0, 0, 0, 0, 0, 0, 300).is(8, "alarm").world(1, 0, 0, 0, 0, 0, 0, 0, 301).is(6, "alarm")
            .world(1, 0, 0, 0, 301, 0, 0, 0, 0).is(2, "alarm").world(1, 0, 1000, 0, 0, 0, 0, 0, 0).is(0, "alarm")
            .with("rule", 0, 2).is(NONE, "alarm").with("rule", SAFE, 301).is(NONE, "alarm").with("rule", SAFE, 1000).is(8, "alarm");
        of("NONE: none is early enough").world(1, 301, 0, 0, 0, 0, 0, 0, 0).is(NONE, "alarm").is(0, "status");
    }

    private static void groups() {
        Sentence like = of("How many groups of WORLDS with like LEVELS till an HOUR");
        for (int world = 0; world < 8; world++) {
            like.world(1, 1, 2, 3, 4, 5, 6, 7, 8).is(1, "groups", 0).is(1, "groups", 7);
        }
        Sentence parted = of("How many groups of WORLDS with like LEVELS till an HOUR");
        for (int world = 0; world < 8; world++) {
            parted.world(1, world, 0, 0, 0, 0, 0, 0, 0).is(world + 1, "groups", 0).is(world + 1, "groups", 7);
        }
        // WORLD w parts from WORLD 0 in HOUR w, so that HOUR h has h + 1 groups.
        Sentence steps = of("that HOUR's among them, there are");
        for (int world = 0; world < 8; world++) {
            int[] levels = new int[8];
            levels[world] = world == 0 ? 0 : 9;
            steps.world(1, levels);
        }
        for (int hour = 0; hour <= 7; hour++) {
            steps.is(hour + 1, "groups", hour);
        }
        steps.is(BAD, "groups", -1).is(BAD, "groups", 8);
    }
}
