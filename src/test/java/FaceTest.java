import java.lang.reflect.Constructor;
import java.lang.reflect.Field;
import java.lang.reflect.Method;
import java.lang.reflect.Modifier;
import java.nio.file.Files;
import java.nio.file.Path;
import java.util.List;
import java.util.TreeSet;
import java.util.regex.Matcher;
import java.util.regex.Pattern;

/** The face is the document's and nothing more, and the source keeps to what LANGUAGE.md lets a word search see. */
public final class FaceTest {
    private static final Check check = new Check("FaceTest");
    private static final String[] METHODS = {"write 1", "erase 0", "fault 0", "club 0", "fact 2", "member 2", "leech 2",
        "as 2", "minute 1", "put 2", "salt 1", "read 2", "undo 0", "keep 1", "back 1", "ahead 2", "gone 2", "boy 0",
        "soonest 4", "order 3", "most 3", "sound 3", "seen 4", "forget 0", "kinds 0", "ask 2", "slate 3", "chalk 5",
        "show 4", "reckon 5", "copy 5", "drop 1", "count 1"};
    private static final Object[][] CONSTANTS = {{"NONE", -1}, {"UNKNOWN", -2}, {"OUTSIDE", -3}, {"NOT", -4}, {"FULL", -5},
        {"NULL", -11}, {"CAST", -12}, {"STORE", -13}, {"INDEX", -14}, {"EMPTY", -15}, {"SIZE", -16}};
    private static final String[] FORBIDDEN = {"throw", "throws", "try", "catch", "finally", "synchronized", "assert", "import",
        "package", "instanceof", "System\\.(?!arraycopy)", "->", "::", "@", "\\bnew (?!Text|Facts|Room|Sightings|Plan|Slate|Part|int|long)",
        "Exact", "Object", "Random", "Thread"};

    public static void main(String[] args) throws Exception {
        methods();
        constants();
        constructors();
        nested();
        source();
        check.end();
    }

    private static void methods() {
        TreeSet<String> want = new TreeSet<>(List.of(METHODS));
        TreeSet<String> names = new TreeSet<>();
        TreeSet<String> got = new TreeSet<>();
        for (String method : METHODS) {
            names.add(method.substring(0, method.indexOf(' ')));
        }
        for (Method m : LeechClub.class.getDeclaredMethods()) {
            if (Modifier.isPrivate(m.getModifiers())) {
                check.holds("no private method is called " + m.getName(), !names.contains(m.getName()));
                continue;
            }
            check.holds(m + " is public", Modifier.isPublic(m.getModifiers()) && !Modifier.isStatic(m.getModifiers()));
            check.holds(m + " answers an int", m.getReturnType() == int.class);
            for (Class<?> type : m.getParameterTypes()) {
                check.holds(m + " takes ints", type == int.class);
            }
            got.add(m.getName() + " " + m.getParameterCount());
        }
        check.holds("the methods are those of the document: " + got, got.equals(want));
    }

    private static void constants() throws Exception {
        int shown = 0;
        for (Field f : LeechClub.class.getDeclaredFields()) {
            if (!Modifier.isPrivate(f.getModifiers())) {
                shown++;
            }
            if (Modifier.isStatic(f.getModifiers())) {
                check.holds(f + " is final", Modifier.isFinal(f.getModifiers()));
            }
        }
        check.due("constants", shown, CONSTANTS.length);
        for (Object[] constant : CONSTANTS) {
            Field f = LeechClub.class.getField((String) constant[0]);
            check.holds(f + " is an int", f.getType() == int.class);
            check.due(f.getName(), f.getInt(null), (Integer) constant[1]);
        }
    }

    private static void constructors() {
        Constructor<?>[] all = LeechClub.class.getDeclaredConstructors();
        check.due("constructors", all.length, 1);
        check.holds("it is public and takes nothing", Modifier.isPublic(all[0].getModifiers()) && all[0].getParameterCount() == 0);
        int modifiers = LeechClub.class.getModifiers();
        check.holds("the class is public and final", Modifier.isPublic(modifiers) && Modifier.isFinal(modifiers));
    }

    private static void nested() {
        Class<?>[] inside = LeechClub.class.getDeclaredClasses();
        check.holds("some twelve classes at most", inside.length <= 11);
        for (Class<?> c : inside) {
            check.holds(c + " is static", Modifier.isStatic(c.getModifiers()));
            check.holds(c + " is not shown", !Modifier.isPublic(c.getModifiers()) && !Modifier.isProtected(c.getModifiers()));
            int fields = 0;
            for (Field f : c.getDeclaredFields()) {
                fields += Modifier.isStatic(f.getModifiers()) ? 0 : 1;
            }
            check.holds(c + " has some twenty fields at most", fields <= 20);
            for (Method m : c.getDeclaredMethods()) {
                check.holds(m + " takes at most seven", m.getParameterCount() <= 7);
            }
        }
    }

    private static void source() throws Exception {
        String source = Files.readString(Path.of("src/main/java/LeechClub.java"));
        String code = source.replaceAll("(?s)/\\*.*?\\*/", " ").replaceAll("//[^\n]*", " ");
        for (String word : FORBIDDEN) {
            Matcher m = Pattern.compile(word.matches("[A-Za-z]+") ? "\\b" + word + "\\b" : word).matcher(code);
            check.holds("the source has no '" + word + "'", !m.find());
        }
        check.holds("the source's signs are 1 to 127", source.chars().allMatch(c -> c > 0 && c < 128));
    }
}
