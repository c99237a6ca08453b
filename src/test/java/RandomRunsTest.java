import java.util.Arrays;
import java.util.Random;

/** Runs of 512 calls, drawn from a fixed seed, on a new object each: every answer is the Model's. */
final class RandomRunsTest {
    private static final Due due = new Due();
    private static final int RUNS = 160, CALLS = 512;
    private static final int[] EDGES = {Integer.MIN_VALUE, -1, 0, 1, 2, 3, 7, 8, 9, 60, 61, 100, 300, 1000, 1001, Integer.MAX_VALUE};
    private static final int[] LEVELS = {0, 100, 190, 280, 301, 310, 330, 400, 1000};
    private static final String[] NAMES = {
        "sheet", "set", "set", "set", "set", "set", "copy", "copy", "drop", "world", "world", "river", "rule", "rule", "best", "hour",
        "hour", "hour", "hour", "shutAt", "alarm", "groups", "gate", "fail", "fail", "mend", "time", "time", "ship", "waits", "waits",
        "closings", "closings", "tooMany", "tooMany", "kind", "as", "as", "ask", "ask", "trace", "trace", "count", "status", "status",
    };

    private final Random random;
    private final SeaGates x = new SeaGates();
    private final Model model = new Model();
    private final int run;
    private int calls = 0;

    private RandomRunsTest(int run) {
        this.run = run;
        random = new Random(7919L * run + 1);
    }

    public static void main(String[] args) {
        for (int run = 0; run < RUNS && due.wrong() == 0; run++) {
            new RandomRunsTest(run).go();
        }
        due.end();
    }

    private void go() {
        if (run % 4 != 0) {
            layLevels();
        }
        while (calls < CALLS && due.wrong() == 0) {
            String name = NAMES[random.nextInt(NAMES.length)];
            call(name, draw(name));
        }
    }

    /** WORLDS that part late are rare among plain draws. */
    private void layLevels() {
        call("sheet", 0, 1 + random.nextInt(2), 16);
        for (int i = 0; i < 16; i++) {
            call("set", 0, i, level());
        }
        int n = 1 + random.nextInt(8);
        for (int world = 0; world < n; world++) {
            call("world", 1 + random.nextInt(20), 0, 0);
            int from = random.nextInt(8);
            call("copy", 0, from + random.nextInt(16 - from), 0, from, 1);
            call("set", 0, from, level());
        }
    }

    private int level() {
        return LEVELS[random.nextInt(LEVELS.length)];
    }

    private void call(String name, int... a) {
        calls++;
        due.is("run " + run + ", call " + calls + ", " + name + Arrays.toString(a), Calls.answer(x, name, a), model.call(name, a));
    }

    /** Mostly a number as told, at times an edge of some sort. */
    private int in(int least, int most) {
        int sort = random.nextInt(40);
        if (sort == 0) {
            return EDGES[random.nextInt(EDGES.length)];
        }
        if (sort == 1) {
            return random.nextBoolean() ? least - 1 : most + 1;
        }
        if (sort < 5) {
            return random.nextBoolean() ? least : most;
        }
        return least + random.nextInt(most - least + 1);
    }

    private int few(int... values) {
        return random.nextInt(12) == 0 ? in(0, 1000) : values[random.nextInt(values.length)];
    }

    private int sheetNumber() {
        return random.nextInt(3) > 0 ? 0 : in(0, 7);
    }

    private int[] draw(String name) {
        switch (name) {
            case "sheet": return new int[] {in(0, 7), in(0, 2), in(-3, 60)};
            case "set": return new int[] {sheetNumber(), in(0, 18), random.nextInt(4) == 0 ? random.nextInt() : level()};
            case "copy": return new int[] {sheetNumber(), in(0, 12), sheetNumber(), in(0, 12), in(0, 10)};
            case "drop": return new int[] {in(1, 7)};
            case "world": return new int[] {in(1, 20), sheetNumber(), in(0, 9)};
            case "river": return new int[] {in(0, 7), few(0, 10, 20, 100)};
            case "rule": return rule();
            case "best": case "alarm": case "status": return new int[] {};
            case "hour": return new int[] {in(0, 7), in(0, 7), in(0, 3)};
            case "shutAt": return new int[] {in(0, 8)};
            case "groups": return new int[] {in(0, 7)};
            case "gate": return new int[] {random.nextBoolean() ? in(1, 500) : few(199, 200), random.nextInt(3) == 0 ? 0 : in(0, 2000)};
            case "fail": case "mend": case "kind": return new int[] {in(0, 5)};
            case "time": return new int[] {in(1, 3), in(0, 1)};
            case "ship": return new int[] {random.nextBoolean() ? in(0, 100000) : few(10, 20, 30, 500), in(1, 500)};
            case "waits": return new int[] {in(0, 9), few(0, 15, 100, 600), random.nextBoolean() ? in(0, 100000) : few(15, 100, 700, 2000)};
            case "closings": return new int[] {sheetNumber(), in(0, 10), in(1, 12), in(0, 100), peakLevel(), in(0, 300)};
            case "tooMany": return new int[] {sheetNumber(), in(0, 10), in(1, 12), in(0, 100), peakLevel(), in(0, 8)};
            case "as": return new int[] {in(0, 5), in(0, 3)};
            case "ask": return new int[] {in(0, 5), in(0, 1)};
            case "trace": return new int[] {in(0, 6)};
            case "count": return new int[] {in(0, 5)};
            default: throw new IllegalArgumentException(name);
        }
    }

    private int peakLevel() {
        return random.nextInt(5) == 0 ? random.nextInt() : in(0, 3500);
    }

    private int[] rule() {
        int what = in(0, 7);
        if (what == 0 || what == 1) {
            return new int[] {what, in(1, 3)};
        }
        return new int[] {what, what < 4 ? few(0, 200, 300, 309, 400) : few(0, 1, 3, 5, 10, 50)};
    }
}
