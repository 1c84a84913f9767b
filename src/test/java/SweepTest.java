import java.util.ArrayList;
import java.util.List;
import java.util.function.Consumer;

/** Every call with every choice of numbers at the bounds of its arguments, in several states, held against the model. */
public final class SweepTest {
    private static final Check check = new Check("SweepTest");
    private static final int LEAST = Integer.MIN_VALUE, MOST = Integer.MAX_VALUE;
    private static final int[] FACTS = {LEAST, -1, 0, 3, 4, 11, 12, MOST};
    private static final int[] MEMBERS = {LEAST, -2, -1, 0, 2, 3, 4, MOST};
    private static final int[] LEECHES = {LEAST, -2, -1, 0, 3, 4, 5, MOST};
    private static final int[] BITS = {LEAST, -1, 0, 1, 15, 16, 2048, 4095, 4096, MOST};
    private static final int[] SLATES = {LEAST, -1, 0, 1, 2, 3, 4, MOST};
    private static final int[] SORTS = {LEAST, -1, 0, 1, 2, 3, MOST};
    private static final int[] PLACES = {LEAST, -1, 0, 1, 2, 9, 10, MOST};
    private static final int[] TO_12 = {LEAST, -1, 0, 1, 12, 13, MOST};
    private static final int[] TO_10 = {LEAST, -1, 0, 1, 10, 11, MOST};
    private static final int[] TO_6 = {LEAST, -1, 0, 1, 6, 7, MOST};
    private static final int[] TO_5 = {LEAST, -1, 0, 1, 5, 6, MOST};
    private static final int[] TO_1 = {LEAST, -1, 0, 1, 2, MOST};
    private static final int[] TO_3 = {LEAST, -1, 0, 1, 2, 3, 4, MOST};
    private static final int[] TO_40 = {LEAST, -1, 0, 1, 40, 41, MOST};

    public static void main(String[] args) {
        List<Consumer<Both>> states = List.of(both -> { }, SweepTest::some, SweepTest::full, SweepTest::late);
        for (int s = 0; s < states.size(); s++) {
            String state = "state " + s;
            Consumer<Both> setUp = states.get(s);
            told(state, setUp);
            done(state, setUp);
            foretold(state, setUp);
            slates(state, setUp);
        }
        check.end();
    }

    private static void told(String state, Consumer<Both> setUp) {
        sweep(state, setUp, "write", new int[] {LEAST, -1, 0, 32, 255, 256, MOST});
        sweep(state, setUp, "fact", FACTS, TO_3);
        sweep(state, setUp, "member", MEMBERS, TO_3);
        sweep(state, setUp, "leech", LEECHES, TO_3);
        sweep(state, setUp, "as", LEECHES, new int[] {LEAST, -1, 0, 1, 2, 3, 4, 5, 6, MOST});
        sweep(state, setUp, "count", new int[] {LEAST, -1, 0, 1, 2, 3, 4, 5, 6, 7, 8, 9, 10, 11, MOST});
    }

    private static void done(String state, Consumer<Both> setUp) {
        sweep(state, setUp, "minute", TO_12);
        sweep(state, setUp, "put", LEECHES, MEMBERS);
        sweep(state, setUp, "salt", LEECHES);
        sweep(state, setUp, "read", MEMBERS, FACTS);
        sweep(state, setUp, "keep", TO_1);
        sweep(state, setUp, "back", TO_1);
    }

    private static void foretold(String state, Consumer<Both> setUp) {
        sweep(state, setUp, "ahead", MEMBERS, TO_40);
        sweep(state, setUp, "gone", MEMBERS, FACTS);
        sweep(state, setUp, "soonest", MEMBERS, BITS, BITS, TO_1);
        sweep(state, setUp, "order", MEMBERS, BITS, BITS);
        sweep(state, setUp, "most", TO_12, new int[] {LEAST, -1, 0, 1, 10, 11, MOST}, new int[] {LEAST, -2, -1, 0, 5, MOST});
        sweep(state, setUp, "sound", FACTS, TO_5, TO_1);
        sweep(state, setUp, "seen", MEMBERS, TO_6, FACTS, TO_1);
        sweep(state, setUp, "ask", MEMBERS, TO_6);
    }

    private static void slates(String state, Consumer<Both> setUp) {
        sweep(state, setUp, "slate", SLATES, SORTS, TO_10);
        sweep(state, setUp, "chalk", SLATES, new int[] {-1, 0, 1, 2, 3}, new int[] {LEAST, -1, 0, 2, 10, MOST},
                new int[] {LEAST, -1000001, -1000000, 0, 1000000, 1000001, MOST}, new int[] {LEAST, -1, 0, 1, 1000000, 1000001, MOST});
        sweep(state, setUp, "show", SLATES, SORTS, PLACES, TO_1);
        sweep(state, setUp, "reckon", new int[] {-1, 0, 1, 2, 3, 4}, new int[] {LEAST, -1, 0, 3, 4}, new int[] {-1, 0, 1, 2, 4, MOST},
                new int[] {-1, 0, 1, 2, 4, MOST}, new int[] {LEAST, -1, 0, 1, 2, 3, MOST});
        sweep(state, setUp, "copy", new int[] {-1, 0, 2, 3, 4}, new int[] {LEAST, -1, 0, 2, 4, MOST}, new int[] {-1, 0, 1, 2, 3, 4},
                new int[] {LEAST, -1, 0, 1, 4, MOST}, new int[] {LEAST, -1, 0, 1, 4, 10, MOST});
        sweep(state, setUp, "drop", SLATES);
    }

    /** A few of everything; slate 3 is missing. */
    private static void some(Both both) {
        slates(both);
        both.tell("fact;fact a;fact;fact bc;member d;member b;member;common;striped;bishop;muff;on 0 0;on 2 1");
        both.call("club");
        both.call("minute", 1);
        both.call("put", 0, -1);
        both.call("salt", 0);
        both.call("seen", 0, 1, 1, 1);
        both.call("keep", 1);
        both.tell("fact a");
    }

    /** As many as there can be, but for letters and minutes. */
    private static void full(Both both) {
        slates(both);
        both.tell("fact;fact a;fact;fact bc;fact;fact d;fact;fact;fact h;fact;fact j;fact k");
        both.call("club");
        both.tell("member ijkl;member abcdefghijkl;member f;member l;common;greedy;striped;muff;bishop;on 0 0;on 3 1");
        both.call("club");
        for (int i = 1; i <= 9; i++) {
            both.call("minute", 1);
        }
        for (int i = 1; i <= 6; i++) {
            both.call("seen", 2, i, 5, i % 2);
        }
        both.call("keep", 0);
    }

    /** The text is full, and it is the last minute. */
    private static void late(Both both) {
        both.tell("fact;member a;muff;on 0 0");
        both.call("club");
        for (int i = 0; i < 83; i++) {
            both.call("minute", 12);
        }
        both.call("minute", 3);
        both.tell(" ".repeat(200));
    }

    private static void slates(Both both) {
        both.call("slate", 0, 0, 3);
        both.call("chalk", 0, 0, 1, -7, 0);
        both.call("slate", 1, 1, 10);
        both.call("chalk", 1, 1, 9, -7, 1);
        both.call("slate", 2, 2, 4);
        both.call("chalk", 2, 2, 0, 1, 2);
        both.call("chalk", 2, 2, 1, 1000000, 3);
    }

    /** What can be seen cheaply behind a call that may have changed something. */
    private static void look(Both both) {
        for (int what = 3; what <= 10; what++) {
            both.call("count", what);
        }
        both.call("kinds");
        both.call("boy");
        both.call("fault");
        both.call("member", 0, 0);
        both.call("leech", 0, 2);
        both.call("leech", 3, 1);
    }

    private static void sweep(String state, Consumer<Both> setUp, String name, int[]... choices) {
        List<int[]> all = new ArrayList<>();
        choose(all, new int[choices.length], 0, choices);
        Both both = null;
        for (int[] arguments : all) {
            if (both == null || both.left() < 16) {
                both = new Both(check, state);
                setUp.accept(both);
            }
            int due = both.call(name, arguments);
            if (due != LeechClub.UNKNOWN && due != LeechClub.OUTSIDE) {
                look(both);
            }
            if (both.differs()) {
                return;
            }
        }
    }

    private static void choose(List<int[]> all, int[] chosen, int place, int[][] choices) {
        if (place == choices.length) {
            all.add(chosen.clone());
            return;
        }
        for (int choice : choices[place]) {
            chosen[place] = choice;
            choose(all, chosen, place + 1, choices);
        }
    }
}
