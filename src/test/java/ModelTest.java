import java.util.HashMap;
import java.util.List;
import java.util.Map;

/** All promises: long rows of calls, the same ones every time, each answer held against the model's. */
public final class ModelTest {
    private static final Check check = new Check("ModelTest");
    private static final String[] WORDS = {"fact", "fact", "fact", "member", "member", "common", "striped", "greedy",
        "bishop", "muff", "on", "club"};
    private static final String[] ODD = {"x", "facts", "7", ";", " ", "  ", "a", "00", "-", "on", "fact", "" + (char) 200, "A"};
    private static final int[] EDGES = {-1, -2, Integer.MIN_VALUE, Integer.MAX_VALUE, 12, 13, 1000000, 1000001, -1000000,
        -1000001, 4095, 4096, 40, 41, 10, 11, 255, 256, 999, 5, 6};

    /** What each call can answer; all of it has to be met. */
    private static final String[] EACH = {"write", "write -3", "write -5", "erase", "fault", "club", "club -4", "fact",
        "fact -2", "fact -3", "member", "member -2", "member -3", "leech", "leech -2", "leech -3", "as", "as -2", "as -3",
        "as -4", "minute", "minute -3", "put", "put -2", "put -4", "salt", "salt -2", "salt -4", "read", "read -2",
        "read -4", "undo", "undo -4", "keep", "keep -2", "back", "back -2", "back -4", "ahead", "ahead -2", "ahead -3",
        "gone", "gone -2", "boy", "soonest", "soonest -2", "soonest -3", "order", "order -2", "most", "most -2", "most -3",
        "sound", "sound -2", "sound -3", "seen", "seen -2", "seen -3", "seen -5", "forget", "kinds", "ask", "ask -2",
        "ask -3", "slate", "slate -2", "slate -3", "slate -16", "chalk", "chalk -2", "chalk -3", "chalk -11", "chalk -12",
        "chalk -14", "show", "show -2", "show -3", "show -11", "show -12", "show -14", "show -15", "reckon", "reckon -2",
        "reckon -3", "reckon -4", "reckon -11", "reckon -12", "reckon -14", "reckon -15", "copy", "copy -2", "copy -11",
        "copy -13", "copy -14", "drop", "drop -2", "drop -11", "count", "count -3"};

    /** What would end or undo too much if it came as often as the others, or takes long. */
    private static final List<String> RARE = List.of("most", "drop", "forget", "erase", "write", "club", "back", "slate");

    private static long state = 1;

    private static int random(int bound) {
        state = state * 6364136223846793005L + 1442695040888963407L;
        return (int) ((state >>> 33) % bound);
    }

    public static void main(String[] args) {
        int runs = args.length > 0 ? Integer.parseInt(args[0]) : 700;
        Map<String, Integer> answered = new HashMap<>();
        int wrongRuns = 0;
        for (int run = 0; run < runs && wrongRuns < 5; run++) {
            state = run * 7919L + 17;
            Both both = new Both(check, "run " + run);
            oneRun(both, answered);
            wrongRuns += both.differs() ? 1 : 0;
        }
        for (String each : EACH) {
            check.holds(each + " was met", runs < 700 || answered.getOrDefault(each, 0) >= 20);
        }
        check.end();
    }

    private static void oneRun(Both both, Map<String, Integer> answered) {
        List<String> names = List.copyOf(Both.FACE.keySet());
        for (int s = 0; s < 4 && random(6) > 0; s++) {
            made(both, answered, "slate", s, Math.min(s, 2), 4);
        }
        boolean isFirst = true;
        while (both.left() > 0 && !both.differs()) {
            if (isFirst || random(160) == 0) {
                tell(both, answered);
            }
            isFirst = false;
            String name = names.get(random(names.size()));
            if (RARE.contains(name) && random(5) > 0) {
                continue;
            }
            made(both, answered, name, arguments(name));
        }
    }

    private static void tell(Both both, Map<String, Integer> answered) {
        if (random(12) > 0) {
            made(both, answered, "erase");
        }
        String text = random(8) > 0 ? faultless() : text();
        for (int i = 0; i < text.length(); i++) {
            made(both, answered, "write", text.charAt(i));
        }
        made(both, answered, "fault");
        made(both, answered, random(6) == 0 ? "fault" : "club");
        made(both, answered, "count", random(11));
    }

    private static void made(Both both, Map<String, Integer> answered, String name, int... a) {
        if (both.left() > 0 && !both.differs()) {
            int due = both.call(name, a);
            answered.merge(name + (due > -2 ? "" : " " + due), 1, Integer::sum);
        }
    }

    private static int[] arguments(String name) {
        int[] a = new int[Both.FACE.get(name).getParameterCount()];
        for (int i = 0; i < a.length; i++) {
            a[i] = argument(name, i);
        }
        boolean isSorted = name.equals("slate") || name.equals("chalk") || name.equals("show");
        if (isSorted && random(5) > 0) {
            a[1] = a[0] == 3 ? 2 : a[0];
        }
        if (name.equals("reckon") && random(5) > 0) {
            a[0] = 2 + random(2);
        }
        if (name.equals("chalk") && a[1] == 2 && random(8) > 0) {
            a[3] = random(4) == 0 ? random(2000001) - 1000000 : random(25) - 12;
            a[4] = random(4) == 0 ? 1 + random(1000000) : 1 + random(24);
        }
        return a;
    }

    /** Mostly a number that may be as told, at times any. */
    private static int argument(String name, int i) {
        if (random(40) == 0) {
            return EDGES[random(EDGES.length)];
        }
        switch (name + i) {
            case "write0": return random(300) - 20;
            case "minute0": return 1 + random(random(4) == 0 ? 12 : 3);
            case "put1": case "most2": return random(4) - 1;
            case "soonest1": case "soonest2": case "order1": case "order2":
                return random(5) == 0 ? 0 : random(1 << random(8)) << random(5) & 4095;
            case "ahead1": return random(12);
            case "most0": return random(13);
            case "most1": return random(11);
            case "seen1": case "ask1": return 1 + random(6);
            case "seen3": return random(20) == 0 ? 2 : random(2);
            case "slate2": return random(8) == 0 ? random(12) - 1 : 4 + random(3);
            case "chalk3": return random(3) == 0 ? (int) (state >>> 20) : random(30);
            case "chalk4": return random(3) == 0 ? (int) (state >>> 20) : random(30);
            case "slate1": case "chalk1": case "show1": return random(3);
            case "count0": return random(12);
            case "sound1": case "as1": return random(6);
            case "gone1": case "read1": case "seen2": case "fact0": case "sound0": return random(7);
            case "gone0": case "member0": case "ahead0": case "read0": case "soonest0": case "order0": case "ask0": case "seen0":
                return random(3);
            case "reckon4": return random(8) == 0 ? 3 : random(3);
            case "show3": case "soonest3": return random(8) == 0 ? 2 : random(2);
            default: return random(4);
        }
    }

    private static String faultless() {
        for (int tries = 0; tries < 99; tries++) {
            String text = text();
            Model model = new Model();
            for (int i = 0; i < text.length(); i++) {
                model.call("write", new int[] {text.charAt(i)});
            }
            if (text.length() <= 200 && model.call("fault", new int[0]) == -1) {
                return text;
            }
        }
        return "fact;member a;common";
    }

    private static String text() {
        StringBuilder text = new StringBuilder();
        int facts = 0;
        int members = 0;
        int leeches = 0;
        int clauses = 3 + random(17);
        for (int c = 0; c < clauses && text.length() < 190; c++) {
            String word = WORDS[random(c < 8 ? 10 : c < 17 ? 11 : 12)];
            boolean isOver = word.equals("fact") ? facts == 12 : word.equals("member") ? members == 4
                    : word.equals("on") ? leeches == 0 || members == 0 : !word.equals("club") && leeches == 5;
            if (isOver && random(20) > 0) {
                word = leeches > 0 && members > 0 ? "on" : facts < 12 ? "fact" : "common";
            }
            text.append(c > 0 ? random(12) == 0 ? " ; " : ";" : "");
            text.append(word);
            if (word.equals("fact") || word.equals("member")) {
                String set = letters(facts);
                text.append(set.isEmpty() ? "" : " ").append(set);
            }
            if (word.equals("on")) {
                text.append(' ').append(random(random(30) == 0 ? 9 : Math.max(1, leeches))).append(' ')
                        .append(random(random(30) == 0 ? 9 : Math.max(1, members)));
            }
            facts = word.equals("club") ? 0 : facts + (word.equals("fact") ? 1 : 0);
            members = word.equals("club") ? 0 : members + (word.equals("member") ? 1 : 0);
            leeches = word.equals("club") ? 0 : leeches + ("fact member on club".contains(word) ? 0 : 1);
        }
        if (random(5) == 0) {
            text.insert(random(text.length() + 1), ODD[random(ODD.length)]);
        }
        return text.toString();
    }

    private static String letters(int facts) {
        StringBuilder set = new StringBuilder();
        int often = 1 + random(4);
        for (int f = 0; f < facts && f < 12; f++) {
            if (random(5) < often) {
                set.append((char) ('a' + f));
            }
        }
        return random(4) == 0 ? "" : set.toString();
    }
}
