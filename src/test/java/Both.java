import java.lang.reflect.InvocationTargetException;
import java.lang.reflect.Method;
import java.lang.reflect.Modifier;
import java.util.Arrays;
import java.util.Map;
import java.util.TreeMap;

/** A club and the model beside it: each call is made on both, and the one's answer is held against the other's. */
final class Both {
    /** The calls of the face by their names. */
    static final Map<String, Method> FACE = new TreeMap<>();

    static {
        for (Method m : LeechClub.class.getDeclaredMethods()) {
            if (Modifier.isPublic(m.getModifiers())) {
                FACE.put(m.getName(), m);
            }
        }
    }

    private final CountedClub club = new CountedClub();
    private final Model model = new Model();
    private final Check check;
    private final String run;
    private final StringBuilder calls = new StringBuilder();
    private boolean differs;

    Both(Check check, String run) {
        this.check = check;
        this.run = run;
    }

    /** Whether an answer was not the model's; then what follows says nothing. */
    boolean differs() {
        return differs;
    }

    /** How many calls are promised yet. */
    int left() {
        return 512 - club.calls();
    }

    void tell(String text) {
        for (int i = 0; i < text.length(); i++) {
            call("write", text.charAt(i));
        }
    }

    /** What is due. */
    int call(String name, int... a) {
        String call = name + Arrays.toString(a);
        calls.append(call).append(' ');
        int got = club.call(c -> answer(c, name, a));
        int due = model.call(name, a);
        check.due(run + ": " + call, got, due);
        if (got != due) {
            differs = true;
            System.out.println(calls);
        }
        return due;
    }

    private static int answer(LeechClub club, String name, int[] a) {
        Object[] boxed = new Object[a.length];
        for (int i = 0; i < a.length; i++) {
            boxed[i] = a[i];
        }
        try {
            return (Integer) FACE.get(name).invoke(club, boxed);
        } catch (IllegalAccessException | InvocationTargetException e) {
            throw new IllegalStateException(name + Arrays.toString(a), e);
        }
    }
}
