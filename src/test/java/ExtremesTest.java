import java.util.Arrays;

/** Every call with every choice of numbers at and beyond the ends, on an empty object and on one that has some of all: it answers as the Model. */
final class ExtremesTest {
    private static final Due due = new Due();
    private static final int MOST_CALLS = 512;
    private static final int[] ENDS = {Integer.MIN_VALUE, -1, 0, 1, 8, 61, Integer.MAX_VALUE};
    private static final String[] NAMES = {
        "sheet 3", "set 3", "copy 5", "drop 1", "world 3", "river 2", "rule 2", "best 0", "hour 3", "shutAt 1", "alarm 0", "groups 1", "gate 2",
        "fail 1", "mend 1", "time 2", "ship 2", "waits 3", "closings 6", "tooMany 6", "kind 1", "as 2", "ask 2", "trace 1", "count 1", "status 0",
    };

    private final boolean some;
    private SeaGates x;
    private Model model;
    private int calls;

    private ExtremesTest(boolean some) {
        this.some = some;
        begin();
    }

    public static void main(String[] args) {
        for (boolean some : new boolean[] {false, true}) {
            for (String name : NAMES) {
                String[] parts = name.split(" ");
                new ExtremesTest(some).tryAll(parts[0], Integer.parseInt(parts[1]));
            }
        }
        due.end();
    }

    private void begin() {
        x = new SeaGates();
        model = new Model();
        calls = 0;
        if (!some) {
            return;
        }
        call("sheet", 0, 1, 60);
        call("sheet", 1, 1, 9);
        call("set", 1, 1, 400);
        call("set", 1, 8, 1000);
        call("sheet", 2, 0, 0);
        call("world", 3, 1, 0);
        call("world", 20, 1, 1);
        call("gate", 100, 0);
        call("gate", 10, 30);
        call("fail", 1);
        call("ship", 0, 5);
        call("ship", 2, 500);
        call("ask", 1, 1);
    }

    private void tryAll(String name, int count) {
        int all = 1;
        for (int k = 0; k < count; k++) {
            all *= ENDS.length;
        }
        for (int choice = 0; choice < all; choice++) {
            int[] a = new int[count];
            int left = choice;
            for (int k = 0; k < count; k++) {
                a[k] = ENDS[left % ENDS.length];
                left /= ENDS.length;
            }
            if (calls + 2 > MOST_CALLS) {
                begin();
            }
            call(name, a);
            call("status");
        }
    }

    private void call(String name, int... a) {
        calls++;
        due.is((some ? "some, " : "empty, ") + name + Arrays.toString(a), Calls.answer(x, name, a), model.call(name, a));
    }
}
