import java.io.IOException;
import java.lang.reflect.Field;
import java.lang.reflect.Method;
import java.lang.reflect.Modifier;
import java.nio.file.Files;
import java.nio.file.Path;
import java.util.Arrays;
import java.util.List;
import java.util.Set;
import java.util.TreeSet;
import java.util.regex.Matcher;
import java.util.regex.Pattern;
import java.util.stream.Collectors;
import java.util.stream.Stream;

/**
 * The document from its first line on: whole passages, each with runs that are reckoned by hand; the
 * face as the document writes it; and that no words of its Terms and promises are without a test.
 */
final class DocumentTest {
    private static final Due due = new Due();
    private static final int BAD = SeaGates.BAD, NONE = SeaGates.NONE, FULL = SeaGates.FULL;
    private static final Path DOCUMENT = Path.of("../shared/DOC.md");

    public static void main(String[] args) throws IOException {
        face(Files.readString(DOCUMENT));
        lastCall();
        refusals();
        sheets();
        worlds();
        barrier();
        policies();
        lossOfBest();
        alarm();
        kinds();
        time();
        ships();
        years();
        bodies();
        promisedAnswers();
        shutAtEachHour();
        allIsQuoted(Files.readString(DOCUMENT));
        due.end();
    }

    private static Sentence of(String words) {
        return new Sentence(due, words);
    }

    /** The face is read from the document, not from a list of the test's own. */
    private static void face(String document) {
        int from = document.indexOf("```java");
        int to = document.indexOf("```", from + 7);
        due.holds("the document writes the face", 0 <= from && from < to);
        String face = document.substring(from, to);
        Set<String> want = new TreeSet<>();
        Matcher methods = Pattern.compile("public (int|long) (\\w+)\\(([^)]*)\\);").matcher(face);
        while (methods.find()) {
            String[] taken = methods.group(3).isBlank() ? new String[0] : methods.group(3).split(",");
            want.add(methods.group(1) + " " + methods.group(2) + " " + Arrays.stream(taken).map(t -> t.trim().split(" ")[0]).toList());
        }
        Set<String> got = new TreeSet<>();
        for (Method m : SeaGates.class.getDeclaredMethods()) {
            if (!Modifier.isPrivate(m.getModifiers())) {
                got.add(m.getReturnType() + " " + m.getName() + " " + Arrays.stream(m.getParameterTypes()).map(Class::getName).toList());
            }
        }
        due.is("26 methods", want.size(), 26);
        due.holds("the face is " + want + ", not " + got, want.equals(got));
        constants(face);
    }

    private static void constants(String face) {
        Matcher constants = Pattern.compile("([A-Z]+) = (-?\\d+)").matcher(face);
        int found = 0;
        while (constants.find()) {
            found++;
            due.is(constants.group(1), constant(constants.group(1)), Integer.parseInt(constants.group(2)));
        }
        due.is("constants of the face", found, 4);
    }

    private static int constant(String name) {
        try {
            Field field = SeaGates.class.getField(name);
            return field.getInt(null);
        } catch (ReflectiveOperationException e) {
            due.holds(name + " is of the face", false);
            return 0;
        }
    }

    /** All that was told early is still there in the last call that is promised. */
    private static void lastCall() {
        filled().is(300, "hour", 7, 7, 2);
        filled().is(8, "count", 1);
        filled().is(6, "count", 3);
        filled().is(20, "count", 5);
        filled().is(60, "drop", 0);
        filled().is(FULL, "world", 1, 0, 0);
        filled().is(10, "trace", 4);
        filled().is(2, "status");
        filled().is(160 * 150 * 10, "shutAt", 8);
    }

    /** An object with 511 calls behind it: full in all, the last of them a FINDING. */
    private static Sentence filled() {
        Sentence s = of("An object is used for at most 512 calls after it has been made");
        for (int sheet = 0; sheet < 8; sheet++) {
            s.with("sheet", sheet, 1, 60);
        }
        s.with("set", 0, 0, 450).with("set", 0, 7, 300);
        for (int k = 0; k < 20; k++) {
            s.with("world", 20, 0, 0).with("gate", 5, 5).with("ship", k, 1);
        }
        s.with("ask", 0, 1);
        for (int calls = 8 + 2 + 60 + 1; calls < 510; calls++) {
            s.with("river", calls % 8, calls % 100);
        }
        return s.is(Due.PLACE, "set", 0, 60, 1);
    }

    private static void refusals() {
        of("Numbers go from 0 on. Refusals are answers, the first of these that fits: BAD (a number is not as told; there is no such thing), "
            + "STATE (as told), FULL, then FINDINGS, of several the first in time")
            .is(0, "sheet", 0, 0, 0).is(8, "sheet", 1, 0, 8).is(0, "world", 1, 1, 0).is(1, "world", 1, 1, 0)
            .is(0, "gate", 1, 0).is(1, "gate", 1, 0).is(0, "ship", 9, 9).is(1, "ship", 9, 9)
            // a number that is not as told, and a thing that there is not
            .is(BAD, "gate", 501, 0).is(BAD, "fail", 2).is(BAD, "waits", 2, 0, 0).is(BAD, "hour", 2, 0, 0).is(BAD, "kind", 2)
            // BAD ahead of all FINDINGS, and the first FINDING of two
            .is(BAD, "copy", 2, -1, 8, 0, 0).is(Due.NULL, "copy", 2, -1, 0, 0, 0).is(1, "status");
    }

    private static void sheets() {
        of("SHEETS 0 .. 7 are missing (at first), or have a LANE (0 bytes, 1 shorts, 2 ints) and 0 to 60 ITEMS, 0 at first.")
            .is(Due.NULL, "drop", 0).is(Due.NULL, "drop", 7).is(60, "sheet", 7, 2, 60).item(7, 59, 0).is(Due.PLACE, "set", 7, 60, 0)
            .is(0, "sheet", 0, 1, 0).is(Due.PLACE, "set", 0, 0, 0).is(2, "count", 0);
        of("ITEM i becomes v, its lowest bits, as many as the LANE has (read with their sign): what it is then.")
            .with("sheet", 0, 0, 2).is(-56, "set", 0, 1, 200).has(0, 0, -56).with("sheet", 0, 1, 2).is(200, "set", 0, 1, 200)
            .is(-31072, "set", 0, 1, 100000).has(0, 0, -31072).with("sheet", 0, 2, 2).is(100000, "set", 0, 1, 100000);
    }

    private static void worlds() {
        of("WORLDS 0 .. 7 (8 at most), each with a weight 1 to 20 and LEVELS of the sea, 0 to 1000, one for each HOUR.")
            .world(20, 0, 300, 0, 300, 0, 300, 0, 300).world(1, 1000, 0, 0, 0, 0, 0, 0, 0).is(2, "count", 1).is(21, "count", 2)
            .is(300, "hour", 0, 7, 2).is(0, "hour", 0, 6, 2).is(1000, "hour", 1, 0, 2);
        of("A WORLD with a weight, LEVELS being 8 ITEMS of a SHEET from i on: its number. BAD: weight, SHEET; FULL: 8; NULL; PLACE; then BAD: a LEVEL.")
            .lay(3, 2, 9, 1, 2, 3, 4, 5, 6, 7, 8, 9).is(0, "world", 2, 3, 1).is(1, "world", 2, 3, 2).is(1, "hour", 0, 0, 2).is(8, "hour", 0, 7, 2)
            .is(2, "hour", 1, 0, 2).is(9, "hour", 1, 7, 2).is(Due.PLACE, "world", 2, 3, 3).is(Due.NULL, "world", 2, 2, 0);
    }

    /** By HOUR: what it is told, how it is, the water behind, what is lost. */
    private static void goes(Sentence s, int world, int[][] course) {
        for (int hour = 0; hour < 8; hour++) {
            for (int what = 0; what < 4; what++) {
                s.is(course[hour][what], "hour", world, hour, what);
            }
        }
    }

    private static void barrier() {
        String words = "THE BARRIER is OPEN, SHUTTING, SHUT or OPENING. It is OPEN as HOUR 0 begins. In each HOUR, in this order: the LEVEL of the sea "
            + "shows; if the barrier is OPEN, it may be told to shut (its cost): SHUTTING for SHUTS HOURS, this one the first; if it is SHUT, to open: "
            + "OPENING for OPENS HOURS, this one the first. If it is SHUT then, the water behind is more by the RIVER, and there are lost: the cost of "
            + "an HOUR shut, and harm by what the water behind is above LIMIT; else the water behind is as the sea, and there is lost harm by what the "
            + "sea is above SAFE. (Behind its last HOUR, SHUTTING is SHUT, OPENING is OPEN.)";
        Sentence twoHours = of(words).with("rule", 0, 2).with("rule", 1, 2).world(3, 100, 150, 900, 900, 190, 100, 100, 100).is(3 * 60, "best");
        goes(twoHours, 0, new int[][] {
            {1, 1, 100, 50}, {0, 1, 150, 0}, {0, 2, 160, 5}, {0, 2, 170, 5}, {2, 3, 190, 0}, {0, 3, 100, 0}, {0, 0, 100, 0}, {0, 0, 100, 0}});
        // The water behind passes LIMIT, 200, in HOUR 3: 15 above it by 3 each, and then it is opened. Told earlier, more would be behind.
        Sentence aboveLimit = of(words).with("river", 3, 25).world(1, 180, 180, 900, 900, 290, 0, 0, 0).is(50 + 5 + 5 + 45, "best");
        goes(aboveLimit, 0, new int[][] {
            {0, 0, 180, 0}, {1, 1, 180, 50}, {0, 2, 190, 5}, {0, 2, 215, 50}, {2, 3, 290, 0}, {0, 0, 0, 0}, {0, 0, 0, 0}, {0, 0, 0, 0}});
        // Told twice: SHUT in HOURS 1 and 6; OPENING in HOUR 2, OPEN from HOUR 3 on.
        Sentence twice = of(words).with("rule", 4, 7).world(2, 0, 500, 0, 0, 0, 20, 500, 0).is(2 * (7 + 5 + 7 + 5), "best");
        goes(twice, 0, new int[][] {
            {1, 1, 0, 7}, {0, 2, 10, 5}, {2, 3, 0, 0}, {0, 0, 0, 0}, {0, 0, 0, 0}, {1, 1, 20, 7}, {0, 2, 30, 5}, {2, 3, 0, 0}});
        // High while it is SHUTTING, in HOUR 1 too: the sea's harm, with the order's cost in HOUR 0 alone.
        Sentence late = of(words).with("rule", 0, 3).world(1, 302, 304, 0, 900, 900, 0, 0, 0).is(70 + 40 + 5 + 5, "best");
        goes(late, 0, new int[][] {
            {1, 1, 302, 70}, {0, 1, 304, 40}, {0, 1, 0, 0}, {0, 2, 10, 5}, {0, 2, 20, 5}, {2, 3, 0, 0}, {0, 0, 0, 0}, {0, 0, 0, 0}});
    }

    private static void policies() {
        String words = "A POLICY tells at each HOUR by the LEVELS that have shown till then, that HOUR's among them, whether it is told: in WORLDS with "
            + "like LEVELS till then alike.";
        // They part in HOUR 2: the order of HOUR 1 is for both, the one to open in HOUR 2 for WORLD 1 alone.
        Sentence both = of(words).world(1, 0, 0, 800, 800, 0, 0, 0, 0).world(4, 0, 0, 100, 0, 0, 0, 0, 0).is(50 + 5 + 5 + 4 * 50, "best");
        goes(both, 0, new int[][] {
            {0, 0, 0, 0}, {1, 1, 0, 50}, {0, 2, 10, 5}, {0, 2, 20, 5}, {2, 3, 0, 0}, {0, 0, 0, 0}, {0, 0, 0, 0}, {0, 0, 0, 0}});
        goes(both, 1, new int[][] {
            {0, 0, 0, 0}, {1, 1, 0, 50}, {2, 3, 100, 0}, {0, 0, 0, 0}, {0, 0, 0, 0}, {0, 0, 0, 0}, {0, 0, 0, 0}, {0, 0, 0, 0}});
        // In the mean the order is too dear: 20 WORLDS pay 50 for it, one has harm of 10 in HOUR 2, and may still shut for HOUR 3.
        Sentence dear = of(words).world(1, 0, 0, 301, 800, 0, 0, 0, 0).world(20, 0, 0, 100, 0, 0, 0, 0, 0).is(10 + 50 + 5 + 3 * 111, "best");
        goes(dear, 0, new int[][] {
            {0, 0, 0, 0}, {0, 0, 0, 0}, {1, 1, 301, 60}, {0, 2, 311, 338}, {2, 3, 0, 0}, {0, 0, 0, 0}, {0, 0, 0, 0}, {0, 0, 0, 0}});
        dear.is(0, "hour", 1, 1, 0).is(0, "hour", 1, 2, 0);
    }

    private static void lossOfBest() {
        of("Its LOSS: the sum over all WORLDS of weight times all that is lost in all HOURS. BEST: of least LOSS; of several the one that, HOUR by HOUR, "
            + "does not tell wherever that can be.")
            .world(5, 0, 304, 0, 0, 0, 0, 0, 0).is(200, "best").world(6, 0, 304, 0, 0, 0, 0, 0, 0).is(440, "best")
            // An order and an HOUR shut cost 40 by now, as much as the harm: not told.
            .with("rule", 4, 35).is(440, "best").is(0, "hour", 0, 0, 0).is(0, "hour", 1, 0, 0).is(440, "shutAt", 8)
            .with("rule", 4, 34).is(11 * 39, "best").is(1, "hour", 0, 0, 0).is(1, "hour", 1, 0, 0);
    }

    private static void alarm() {
        of("ALARM: the latest HOUR in which it can be told to shut (and never to open), in all WORLDS, so that it is SHUT in each HOUR in which the sea is "
            + "above SAFE in some WORLD; 8: no HOUR is like that; NONE: none is early enough.")
            .is(8, "alarm").world(1, 0, 0, 0, 0, 0, 0, 301, 0).is(5, "alarm").world(1, 0, 0, 0, 301, 0, 0, 0, 0).is(2, "alarm")
            .with("rule", 0, 2).is(1, "alarm").with("rule", 0, 3).is(0, "alarm").world(1, 0, 0, 301, 0, 0, 0, 0, 0).is(NONE, "alarm")
            .with("rule", 0, 2).is(0, "alarm").with("rule", 2, 301).is(8, "alarm");
        of("ALARM.").world(1, 0, 0, 0, 0, 0, 0, 0, 301).is(6, "alarm");
    }

    private static void kinds() {
        String words = "GATES 0 .. 5 (6 at most), each with minutes to shut, 1 to 500, and by hand, 0 (it cannot be) to 2000. KINDS: 0 GATE; 1 HANDED, a GATE: "
            + "it can be shut by hand; 2 TWIN, a HANDED one: by hand in the same minutes or fewer; 3 SLOW, a GATE: it cannot be shut by hand, and takes "
            + "200 minutes or more. It is told as the first that fits of TWIN, HANDED, SLOW, GATE; by this it is asked.";
        of(words).with("gate", 199, 0).with("gate", 200, 0).with("gate", 200, 201).with("gate", 200, 200)
            .is(0, "kind", 0).is(3, "kind", 1).is(1, "kind", 2).is(2, "kind", 3)
            .is(199, "as", 0, 0).is(Due.KIND, "as", 0, 1).is(Due.KIND, "as", 0, 2).is(Due.KIND, "as", 0, 3)
            .is(200, "as", 1, 0).is(Due.KIND, "as", 1, 1).is(Due.KIND, "as", 1, 2).is(200, "as", 1, 3)
            .is(200, "as", 2, 0).is(200, "as", 2, 1).is(Due.KIND, "as", 2, 2).is(Due.KIND, "as", 2, 3)
            .is(200, "as", 3, 0).is(200, "as", 3, 1).is(200, "as", 3, 2).is(Due.KIND, "as", 3, 3)
            .is(199, "ask", 0, 0).is(1200, "ask", 1, 0).is(401, "ask", 2, 0).is(200, "ask", 3, 0)
            // taken as another KIND it is asked by its own
            .is(200, "as", 3, 0).is(200, "ask", 3, 0).is(12, "trace", 0);
    }

    private static void time() {
        of("TIME to shut: CREWS (1 to 3) of hands: sound GATES all at once; FAILED ones by hand: each CREW one at a time, they take them by numbers, as soon "
            + "as one is free (of several the least CREW); the greatest minute of all; NONE: a FAILED one cannot be shut by hand.")
            .with("gate", 30, 20).with("gate", 45, 0).with("gate", 30, 25).with("gate", 30, 10).with("gate", 30, 4).is(45, "time", 1, 0)
            .with("fail", 0).with("fail", 2).with("fail", 3).with("fail", 4)
            .is(59, "time", 1, 0) // 20, 45, 55, 59
            .with("fail", 1).is(NONE, "time", 1, 0).is(NONE, "time", 3, 0).with("mend", 1)
            .is(45, "time", 2, 0) // 20 and 25 by hand, then 30, 29; but GATE 1 takes 45 by itself
            .with("gate", 1, 50).with("fail", 5).is(109, "time", 1, 0).is(79, "time", 2, 0).is(64, "time", 3, 0);
    }

    private static void ships() {
        of("SHIPS: each comes at a minute, and takes so many to pass: one at a time, as they come (of several the one told first); none begins to pass while "
            + "it is shut, from one minute to another (one that has begun ends). WAIT of a SHIP: minutes from coming till it begins to pass.")
            .with("ship", 30, 10).with("ship", 10, 25).with("ship", 30, 5).with("ship", 90, 1)
            .is(0, "waits", 1, 0, 0).is(5, "waits", 0, 0, 0).is(15, "waits", 2, 0, 0).is(0, "waits", 3, 0, 0)
            // shut from 11: the first has begun, and ends at 35; the next begin at 60
            .is(0, "waits", 1, 11, 60).is(30, "waits", 0, 11, 60).is(40, "waits", 2, 11, 60).is(0, "waits", 3, 11, 60)
            // shut from 40: two have begun; the third waits till 100, and the last behind it
            .is(5, "waits", 0, 40, 100).is(70, "waits", 2, 40, 100).is(15, "waits", 3, 40, 100);
    }

    private static void years() {
        of("YEARS: PEAKS, ITEMS of a SHEET: each year y (0 on) all are higher by y times a RISE by 10, cut; CLOSINGS: how many are above a level then.")
            .lay(4, 1, 100, 250, 290, 300, 305).is(1, "closings", 4, 0, 5, 7, 300, 0).is(1, "closings", 4, 0, 5, 7, 300, 1)
            .is(2, "closings", 4, 0, 5, 7, 300, 2).is(2, "closings", 4, 0, 5, 7, 300, 14).is(2, "closings", 4, 0, 5, 7, 300, 15)
            .is(3, "closings", 4, 0, 5, 7, 300, 16).is(4, "closings", 4, 0, 5, 7, 300, 73).is(3, "closings", 4, 0, 5, 7, 300, 72)
            .is(5, "closings", 4, 0, 5, 7, 300, 288).is(4, "closings", 4, 0, 5, 7, 300, 287)
            .is(0, "tooMany", 4, 0, 5, 7, 300, 0).is(2, "tooMany", 4, 0, 5, 7, 300, 1).is(16, "tooMany", 4, 0, 5, 7, 300, 2)
            .is(73, "tooMany", 4, 0, 5, 7, 300, 3).is(288, "tooMany", 4, 0, 5, 7, 300, 4).is(NONE, "tooMany", 4, 0, 5, 7, 300, 5);
    }

    private static void asked(Sentence s, int gate, int what, int want, int... bodies) {
        s.is(want, "ask", gate, what);
        for (int i = 0; i <= bodies.length; i++) {
            s.is(i < bodies.length ? bodies[i] : NONE, "trace", i);
        }
    }

    private static void bodies() {
        Sentence s = of("ASKS, by BODIES, each of which leaves its number in THE TRACE as it begins (the first 16): 0 COST: 10 lent to all GATES: minutes to "
            + "shut. 11 of HANDED ones: what 10 gives, and by hand. 12 of TWINS: what 11 gives, by 2, cut. 13 of SLOW ones: what 10 gives, and 1000. 1 MARK: "
            + "20 lent to all GATES: 1 if it is FAILED, else 0. 21 of HANDED ones: what 20 gives, and COST. 22 of SLOW ones: what 20 gives, less COST.");
        s.with("gate", 33, 0).with("gate", 33, 40).with("gate", 33, 10).with("gate", 333, 0);
        for (int failed = 0; failed <= 1; failed++) {
            asked(s, 0, 0, 33, 10);
            asked(s, 1, 0, 73, 11, 10);
            asked(s, 2, 0, 21, 12, 11, 10);
            asked(s, 3, 0, 1333, 13, 10);
            asked(s, 0, 1, failed, 20);
            asked(s, 1, 1, 73 + failed, 21, 20, 11, 10);
            asked(s, 2, 1, 21 + failed, 21, 20, 12, 11, 10);
            asked(s, 3, 1, failed - 1333, 22, 20, 13, 10);
            s.with("fail", 0).with("fail", 1).with("fail", 2).with("fail", 3);
        }
    }

    private static void promisedAnswers() {
        of("By BEST, in a WORLD, of an HOUR: 0 whether it is told to shut (1), to open (2), neither (0); 1 how the barrier is in it, behind that: 0 OPEN, "
            + "1 SHUTTING, 2 SHUT, 3 OPENING; 2 the water behind at its end; 3 what is lost in it (the cost of an order to shut, too). BAD.")
            .world(9, 0, 900, 0, 0, 0, 0, 0, 900)
            .is(1, "hour", 0, 0, 0).is(1, "hour", 0, 0, 1).is(0, "hour", 0, 0, 2).is(50, "hour", 0, 0, 3)
            .is(0, "hour", 0, 1, 0).is(2, "hour", 0, 1, 1).is(10, "hour", 0, 1, 2).is(5, "hour", 0, 1, 3)
            // HOURS 2 to 6 shut cost 25, less than an order anew, 50; not less than one for 24.
            .is(0, "hour", 0, 2, 0).is(2, "hour", 0, 6, 1).is(60, "hour", 0, 6, 2).is(5, "hour", 0, 7, 3).is(9 * (50 + 7 * 5), "best")
            .with("rule", 4, 24).is(9 * (24 + 5 + 24 + 5), "best").is(2, "hour", 0, 2, 0).is(3, "hour", 0, 2, 1).is(0, "hour", 0, 3, 1)
            .is(1, "hour", 0, 6, 0).is(24, "hour", 0, 6, 3).is(BAD, "hour", 0, 6, 4).is(BAD, "hour", 1, 6, 0).is(BAD, "hour", 0, 8, 0);
        of("How many groups of WORLDS with like LEVELS till an HOUR, that HOUR's among them, there are. BAD.")
            .world(1, 5, 5, 5, 5, 5, 5, 5, 5).world(1, 5, 5, 6, 5, 5, 5, 5, 5).world(1, 5, 5, 6, 5, 5, 5, 5, 7).world(1, 4, 5, 5, 5, 5, 5, 5, 5)
            .is(2, "groups", 0).is(2, "groups", 1).is(3, "groups", 2).is(3, "groups", 6).is(4, "groups", 7).is(BAD, "groups", 8);
    }

    /** Every HOUR and every SHUTS, reckoned HOUR by HOUR. */
    private static void shutAtEachHour() {
        int[] levels = {180, 310, 250, 400, 390, 120, 305, 0};
        for (int shuts = 1; shuts <= 3; shuts++) {
            Sentence s = of("LOSS of the POLICY that tells to shut at an HOUR (0 to 8; 8: never) in all WORLDS, and never to open. BAD as a long.")
                .with("rule", 0, shuts).world(7, levels).world(2, levels);
            for (int order = 0; order <= 8; order++) {
                long lost = order < 8 ? 50 : 0;
                int behind = 0;
                for (int hour = 0; hour < 8; hour++) {
                    boolean shut = hour >= order + shuts;
                    behind = shut ? behind + 10 : levels[hour];
                    lost += shut ? 5 + 3 * Math.max(0, behind - 200) : 10 * Math.max(0, behind - 300);
                }
                s.is(9 * lost, "shutAt", order);
            }
            s.is(BAD, "shutAt", 9);
        }
    }

    /** All words of Terms and promises stand in what some test quotes, but for headings, marks and the calls' own lines. */
    private static void allIsQuoted(String document) throws IOException {
        String words = document.substring(document.indexOf("## Terms"), document.indexOf("## Not promised"))
            .replaceAll("(?m)^## .*$", "").replaceAll("(?m)^```.*$", "").replaceAll("(?m)^======== \\d ", "")
            .replaceAll("(?m)^Ahead of the calls .*$", "").replaceAll("(?m)^`[^`]*`: ", "");
        String line = words.replaceAll("\\s+", " ");
        boolean[] quoted = new boolean[line.length()];
        for (String quote : quotes()) {
            for (int at = line.indexOf(quote); at >= 0; at = line.indexOf(quote, at + 1)) {
                Arrays.fill(quoted, at, at + quote.length(), true);
            }
        }
        StringBuilder left = new StringBuilder();
        for (int k = 0; k < quoted.length; k++) {
            left.append(quoted[k] ? '\n' : line.charAt(k));
        }
        for (String piece : left.toString().split("\n+")) {
            due.holds("some test quotes: " + piece.trim(), !piece.matches(".*[A-Za-z0-9].*"));
        }
    }

    private static List<String> quotes() throws IOException {
        try (Stream<Path> tests = Files.list(Path.of("src/test/java"))) {
            return tests.filter(t -> t.toString().endsWith("Test.java")).flatMap(DocumentTest::literals)
                .filter(q -> q.length() > 5).collect(Collectors.toList());
        }
    }

    private static Stream<String> literals(Path test) {
        try {
            String source = Files.readString(test).replaceAll("\"\\s*\\+ \"", "");
            return Pattern.compile("\"((?:[^\"\\\\\n]|\\\\.)*)\"").matcher(source).results().map(m -> m.group(1));
        } catch (IOException e) {
            throw new java.io.UncheckedIOException(e);
        }
    }
}
