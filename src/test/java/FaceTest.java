import java.io.IOException;
import java.lang.reflect.Constructor;
import java.lang.reflect.Field;
import java.lang.reflect.Method;
import java.lang.reflect.Modifier;
import java.nio.file.Files;
import java.nio.file.Path;
import java.util.Arrays;
import java.util.Set;
import java.util.TreeSet;
import java.util.regex.Pattern;

/** The public face of the document, and those rules of LANGUAGE.md that a program can see. */
final class FaceTest {
    private static final Due due = new Due();

    private static final String[] FACE = {
        "int sheet 3", "int set 3", "int copy 5", "int drop 1", "int world 3", "int river 2", "int rule 2", "long best 0",
        "int hour 3", "long shutAt 1", "int alarm 0", "int groups 1", "int gate 2", "int fail 1", "int mend 1", "int time 2",
        "int ship 2", "int waits 3", "int closings 6", "int tooMany 6", "int kind 1", "int as 2", "int ask 2", "int trace 1",
        "int count 1", "int status 0",
    };

    public static void main(String[] args) throws IOException {
        constants();
        face();
        insides();
        words();
        due.end();
    }

    private static void constants() {
        due.is("NONE", SeaGates.NONE, -1000000);
        due.is("BAD", SeaGates.BAD, -1000001);
        due.is("STATE", SeaGates.STATE, -1000002);
        due.is("FULL", SeaGates.FULL, -1000003);
    }

    private static void face() {
        Set<String> want = new TreeSet<>(Arrays.asList(FACE));
        Set<String> got = new TreeSet<>();
        Set<String> publicNames = new TreeSet<>();
        for (Method m : SeaGates.class.getDeclaredMethods()) {
            if (Modifier.isPublic(m.getModifiers())) {
                got.add(m.getReturnType() + " " + m.getName() + " " + m.getParameterCount());
                publicNames.add(m.getName());
                for (Class<?> type : m.getParameterTypes()) {
                    due.holds(m.getName() + " takes ints", type == int.class);
                }
            }
        }
        due.holds("the face is " + want + ", not " + got, want.equals(got));
        for (Method m : SeaGates.class.getDeclaredMethods()) {
            if (!Modifier.isPublic(m.getModifiers())) {
                due.holds(m + " is private", Modifier.isPrivate(m.getModifiers()));
                due.holds(m + " has a name of its own", !publicNames.contains(m.getName()));
            }
        }
        Set<String> constants = new TreeSet<>(Arrays.asList("NONE", "BAD", "STATE", "FULL"));
        for (Field f : SeaGates.class.getDeclaredFields()) {
            due.holds(f + " is private or a constant of the face", Modifier.isPrivate(f.getModifiers()) != constants.contains(f.getName()));
        }
        Constructor<?>[] constructors = SeaGates.class.getDeclaredConstructors();
        due.holds("one public constructor", constructors.length == 1 && Modifier.isPublic(constructors[0].getModifiers()));
        due.holds("final", Modifier.isFinal(SeaGates.class.getModifiers()));
    }

    private static void insides() {
        Class<?>[] classes = SeaGates.class.getDeclaredClasses();
        due.holds("twelve classes at most", classes.length + 1 <= 12);
        for (Class<?> c : classes) {
            due.holds(c + " is static and not public", Modifier.isStatic(c.getModifiers()) && !Modifier.isPublic(c.getModifiers()));
            checkFields(c);
        }
        checkFields(SeaGates.class);
    }

    private static void checkFields(Class<?> c) {
        int own = 0;
        for (Field f : c.getDeclaredFields()) {
            if (Modifier.isStatic(f.getModifiers())) {
                due.holds(f + " is final", Modifier.isFinal(f.getModifiers()));
            } else {
                own++;
            }
        }
        due.holds(c + " has twenty fields at most", own <= 20);
    }

    private static void words() throws IOException {
        String source = Files.readString(Path.of("src/main/java/SeaGates.java"));
        String code = source.replaceAll("(?s)/\\*.*?\\*/", "").replaceAll("//[^\n]*", "");
        String[] banned = {
            "\\bthrow", "\\btry\\b", "\\bcatch\\b", "\\bsynchronized\\b", "\\bassert\\b", "->", "::", "@", "Exact\\b",
            "\\bpackage\\b", "\\bSystem\\.(?!arraycopy)", "\\bprotected\\b", "\\bhashCode\\b", "\\btoString\\b",
        };
        for (String word : banned) {
            due.holds("no " + word + " in the code", !Pattern.compile(word).matcher(code).find());
        }
        for (String line : code.split("\n")) {
            due.holds("imports: " + line, !line.startsWith("import ") || line.equals("import java.util.Arrays;"));
        }
        for (char sign : source.toCharArray()) {
            if (sign > 126) {
                due.holds("plain signs alone", false);
            }
        }
    }
}
