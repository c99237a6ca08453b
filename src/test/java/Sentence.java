import java.io.IOException;
import java.io.UncheckedIOException;
import java.nio.file.Files;
import java.nio.file.Path;
import java.util.Arrays;

/** Words of the document, with a new object of their own, and calls on it with the answers that are due by them. */
final class Sentence {
    private static final int MOST_CALLS = 512;
    private static final String DOCUMENT = oneLine(read());

    private final Due due;
    private final String words;
    private final SeaGates x = new SeaGates();
    private int calls = 0;

    Sentence(Due due, String words) {
        this.due = due;
        this.words = words;
        due.holds("the document says: " + words, DOCUMENT.contains(oneLine(words)));
    }

    private static String read() {
        try {
            return Files.readString(Path.of("../shared/DOC.md"));
        } catch (IOException e) {
            throw new UncheckedIOException(e);
        }
    }

    private static String oneLine(String text) {
        return text.replaceAll("\\s+", " ");
    }

    Sentence is(long want, String name, int... a) {
        due.is("\"" + words + "\": call " + calls + ", " + name + Arrays.toString(a), answer(name, a), want);
        return this;
    }

    /** A call that only leads up to others. */
    Sentence with(String name, int... a) {
        answer(name, a);
        return this;
    }

    private long answer(String name, int... a) {
        calls++;
        due.holds("\"" + words + "\": 512 calls at most", calls <= MOST_CALLS);
        return Calls.answer(x, name, a);
    }

    /** A SHEET of a LANE with these ITEMS. */
    Sentence lay(int sheet, int lane, int... items) {
        with("sheet", sheet, lane, items.length);
        for (int i = 0; i < items.length; i++) {
            with("set", sheet, i, items[i]);
        }
        return this;
    }

    /** A WORLD with these LEVELS, by way of SHEET 7. */
    Sentence world(int weight, int... levels) {
        return lay(7, 1, levels).with("world", weight, 7, 0);
    }

    /** ITEMS from 0 on are these: each is above the number below it, and not above itself. */
    Sentence has(int sheet, int... items) {
        for (int i = 0; i < items.length; i++) {
            item(sheet, i, items[i]);
        }
        return this;
    }

    Sentence item(int sheet, int i, int v) {
        is(0, "closings", sheet, i, 1, 0, v, 0);
        return v == Integer.MIN_VALUE ? this : is(1, "closings", sheet, i, 1, 0, v - 1, 0);
    }
}
