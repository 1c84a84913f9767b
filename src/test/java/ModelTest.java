import java.lang.reflect.Method;
import java.lang.reflect.Modifier;
import java.util.ArrayList;
import java.util.Comparator;
import java.util.HashMap;
import java.util.List;
import java.util.Map;

/** All promises: long rows of calls, the same ones every time, each answer held against the model's. */
public final class ModelTest {
    private static final Check check = new Check("ModelTest");
    private static final String[] WORDS = {"fact", "fact", "fact", "member", "member", "common", "striped", "greedy",
        "bishop", "muff", "on", "club"};
    private static final String[] ODD = {"x", "facts", "7", ";", " ", "  ", "a", "00", "-", "on", "fact", "" + (char) 200, "A"};
    private static final int[] EDGES = {-1, -2, Integer.MIN_VALUE, Integer.MAX_VALUE, 12, 13, 1000000, 1000001, -1000000,
        -1000001, 4095, 4096, 40, 41, 10, 11, 255, 256, 999, 5, 6};

    /** What each call can answer; all of it has to be met. */
    private static final String[] EACH = {"write", "write -3", "write -5", "erase", "fault", "club", "club -4", "fact",
        "fact -2", "fact -3", "member", "member -2", "member -3", "leech", "leech -2", "leech -3", "as", "as -2", "as -3",
        "as -4", "minute", "minute -3", "put", "put -2", "put -4", "salt", "salt -2", "salt -4", "read", "read -2",
        "read -4", "undo", "undo -4", "keep", "keep -2", "back", "back -2", "back -4", "ahead", "ahead -2", "ahead -3",
        "gone", "gone -2", "boy", "soonest", "soonest -2", "soonest -3", "order", "order -2", "most", "most -2", "most -3",
        "sound", "sound -2", "sound -3", "seen", "seen -2", "seen -3", "seen -5", "forget", "kinds", "ask", "ask -2",
        "ask -3", "slate", "slate -2", "slate -3", "slate -16", "chalk", "chalk -2", "chalk -3", "chalk -11", "chalk -12",
        "chalk -14", "show", "show -2", "show -3", "show -11", "show -12", "show -14", "show -15", "reckon", "reckon -2",
        "reckon -3", "reckon -4", "reckon -11", "reckon -12", "reckon -14", "reckon -15", "copy", "copy -2", "copy -11",
        "copy -13", "copy -14", "drop", "drop -2", "drop -11", "count", "count -3"};

    private static long state = 1;
    private static int wrongRuns = 0;

    private static int random(int bound) {
        state = state * 6364136223846793005L + 1442695040888963407L;
        return (int) ((state >>> 33) % bound);
    }

    public static void main(String[] args) throws Exception {
        List<Method> face = new ArrayList<>();
        for (Method m : LeechClub.class.getDeclaredMethods()) {
            if (Modifier.isPublic(m.getModifiers())) {
                face.add(m);
            }
        }
        face.sort(Comparator.comparing(Method::getName));
        int runs = args.length > 0 ? Integer.parseInt(args[0]) : 700;
        Map<String, Integer> answered = new HashMap<>();
        for (int run = 0; run < runs && wrongRuns < 5; run++) {
            state = run * 7919L + 17;
            oneRun(run, face, answered);
        }
        for (String each : EACH) {
            check.holds(each + " was met", runs < 700 || answered.getOrDefault(each, 0) >= 20);
        }
        check.end();
    }

    private static void oneRun(int run, List<Method> face, Map<String, Integer> answered) throws Exception {
        LeechClub x = new LeechClub();
        Model model = new Model();
        StringBuilder calls = new StringBuilder();
        int left = 512;
        for (int s = 0; s < 4 && random(6) > 0; s++) {
            if (!same(run, x, model, method(face, "slate"), new int[] {s, Math.min(s, 2), 4}, calls, answered)) {
                return;
            }
            left--;
        }
        boolean isFirst = true;
        while (left > 0) {
            boolean isText = isFirst || random(160) == 0;
            isFirst = false;
            if (isText) {
                if (random(12) > 0 && !same(run, x, model, method(face, "erase"), new int[0], calls, answered)) {
                    return;
                }
                left--;
                String text = random(8) > 0 ? faultless() : text();
                for (int i = 0; i < text.length() && left > 4; i++, left--) {
                    if (!same(run, x, model, method(face, "write"), new int[] {text.charAt(i)}, calls, answered)) {
                        return;
                    }
                }
                for (String name : new String[] {"fault", random(6) == 0 ? "fault" : "club", "count"}) {
                    int[] a = name.equals("count") ? new int[] {random(11)} : new int[0];
                    if (!same(run, x, model, method(face, name), a, calls, answered)) {
                        return;
                    }
                    left--;
                }
            }
            Method m = face.get(random(face.size()));
            if ("most drop forget erase write club back slate".contains(m.getName()) && random(5) > 0) {
                continue;
            }
            if (!same(run, x, model, m, arguments(m), calls, answered)) {
                return;
            }
            left--;
        }
    }

    private static Method method(List<Method> face, String name) {
        return face.stream().filter(m -> m.getName().equals(name)).findFirst().orElseThrow();
    }

    private static boolean same(int run, LeechClub x, Model model, Method m, int[] a, StringBuilder calls,
            Map<String, Integer> answered) throws Exception {
        Object[] boxed = new Object[a.length];
        for (int i = 0; i < a.length; i++) {
            boxed[i] = a[i];
        }
        String call = m.getName() + java.util.Arrays.toString(a);
        calls.append(call).append(' ');
        int got = (Integer) m.invoke(x, boxed);
        int want = model.call(m.getName(), a);
        answered.merge(m.getName() + (want > -2 ? "" : " " + want), 1, Integer::sum);
        check.due("run " + run + ": " + call, got, want);
        if (got != want) {
            wrongRuns++;
            System.out.println(calls);
        }
        return got == want;
    }

    private static int[] arguments(Method m) {
        int[] a = new int[m.getParameterCount()];
        for (int i = 0; i < a.length; i++) {
            a[i] = argument(m.getName(), i);
        }
        boolean isSorted = m.getName().equals("slate") || m.getName().equals("chalk") || m.getName().equals("show");
        if (isSorted && random(5) > 0) {
            a[1] = a[0] == 3 ? 2 : a[0];
        }
        if (m.getName().equals("reckon") && random(5) > 0) {
            a[0] = 2 + random(2);
        }
        if (m.getName().equals("chalk") && a[1] == 2 && random(8) > 0) {
            a[3] = random(4) == 0 ? random(2000001) - 1000000 : random(25) - 12;
            a[4] = random(4) == 0 ? 1 + random(1000000) : 1 + random(24);
        }
        return a;
    }

    /** Mostly a number that may be as told, at times any. */
    private static int argument(String name, int i) {
        if (random(40) == 0) {
            return EDGES[random(EDGES.length)];
        }
        switch (name + i) {
            case "write0": return random(300) - 20;
            case "minute0": return 1 + random(random(4) == 0 ? 12 : 3);
            case "put1": case "most2": return random(4) - 1;
            case "soonest1": case "soonest2": case "order1": case "order2":
                return random(5) == 0 ? 0 : random(1 << random(8)) << random(5) & 4095;
            case "ahead1": return random(12);
            case "most0": return random(13);
            case "most1": return random(11);
            case "seen1": case "ask1": return 1 + random(6);
            case "seen3": return random(20) == 0 ? 2 : random(2);
            case "slate2": return random(8) == 0 ? random(12) - 1 : 4 + random(3);
            case "chalk3": return random(3) == 0 ? (int) (state >>> 20) : random(30);
            case "chalk4": return random(3) == 0 ? (int) (state >>> 20) : random(30);
            case "slate1": case "chalk1": case "show1": return random(3);
            case "count0": return random(12);
            case "sound1": case "as1": return random(6);
            case "gone1": case "read1": case "seen2": case "fact0": case "sound0": return random(7);
            case "gone0": case "member0": case "ahead0": case "read0": case "soonest0": case "order0": case "ask0": case "seen0":
                return random(3);
            case "reckon4": return random(8) == 0 ? 3 : random(3);
            case "show3": case "soonest3": return random(8) == 0 ? 2 : random(2);
            default: return random(4);
        }
    }

    private static String faultless() {
        for (int tries = 0; tries < 99; tries++) {
            String text = text();
            Model model = new Model();
            for (int i = 0; i < text.length(); i++) {
                model.call("write", new int[] {text.charAt(i)});
            }
            if (text.length() <= 200 && model.call("fault", new int[0]) == -1) {
                return text;
            }
        }
        return "fact;member a;common";
    }

    private static String text() {
        StringBuilder text = new StringBuilder();
        int facts = 0;
        int members = 0;
        int leeches = 0;
        int clauses = 3 + random(17);
        for (int c = 0; c < clauses && text.length() < 190; c++) {
            String word = WORDS[random(c < 8 ? 10 : c < 17 ? 11 : 12)];
            boolean isOver = word.equals("fact") ? facts == 12 : word.equals("member") ? members == 4
                    : word.equals("on") ? leeches == 0 || members == 0 : !word.equals("club") && leeches == 5;
            if (isOver && random(20) > 0) {
                word = leeches > 0 && members > 0 ? "on" : facts < 12 ? "fact" : "common";
            }
            text.append(c > 0 ? random(12) == 0 ? " ; " : ";" : "");
            text.append(word);
            if (word.equals("fact") || word.equals("member")) {
                String set = letters(facts);
                text.append(set.isEmpty() ? "" : " ").append(set);
            }
            if (word.equals("on")) {
                text.append(' ').append(random(random(30) == 0 ? 9 : Math.max(1, leeches))).append(' ')
                        .append(random(random(30) == 0 ? 9 : Math.max(1, members)));
            }
            facts = word.equals("club") ? 0 : facts + (word.equals("fact") ? 1 : 0);
            members = word.equals("club") ? 0 : members + (word.equals("member") ? 1 : 0);
            leeches = word.equals("club") ? 0 : leeches + ("fact member on club".contains(word) ? 0 : 1);
        }
        if (random(5) == 0) {
            text.insert(random(text.length() + 1), ODD[random(ODD.length)]);
        }
        return text.toString();
    }

    private static String letters(int facts) {
        StringBuilder set = new StringBuilder();
        int often = 1 + random(4);
        for (int f = 0; f < facts && f < 12; f++) {
            if (random(5) < often) {
                set.append((char) ('a' + f));
            }
        }
        return random(4) == 0 ? "" : set.toString();
    }
}
