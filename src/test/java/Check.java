import java.util.ArrayList;
import java.util.List;
import java.util.function.IntSupplier;

/** What the tests share: counting wrong answers, telling texts, and seeing whether a call changed anything. */
final class Check {
    private int looked = 0;
    private int wrong = 0;
    private final String name;

    Check(String name) {
        this.name = name;
    }

    void due(String call, long got, long want) {
        looked++;
        if (got != want) {
            wrong++;
            System.out.println(name + ": " + call + " answered " + got + ", due is " + want);
        }
    }

    void holds(String what, boolean isSo) {
        looked++;
        if (!isSo) {
            wrong++;
            System.out.println(name + ": not so: " + what);
        }
    }

    /** A refused call: its answer, and that nothing that can be seen has changed. */
    void refused(LeechClub x, String call, int want, IntSupplier answer) {
        List<Integer> before = seenOf(x);
        due(call, answer.getAsInt(), want);
        holds(call + " changes nothing", before.equals(seenOf(x)));
    }

    /** Ends the program: with 1 if an answer was wrong. */
    void end() {
        System.out.println(name + ": " + looked + " looked at, " + wrong + " wrong");
        System.exit(wrong == 0 && looked > 0 ? 0 : 1);
    }

    static LeechClub clubOf(String text) {
        LeechClub x = new LeechClub();
        tell(x, text);
        if (x.club() < 0) {
            throw new IllegalArgumentException("a test's text has a fault: " + text);
        }
        return x;
    }

    static void tell(LeechClub x, String text) {
        for (int i = 0; i < text.length(); i++) {
            x.write(text.charAt(i));
        }
    }

    /** Everything that calls which change nothing tell of an object. */
    static List<Integer> seenOf(LeechClub x) {
        List<Integer> all = new ArrayList<>();
        for (int what = 0; what <= 10; what++) {
            all.add(x.count(what));
        }
        all.add(x.fault());
        all.add(x.kinds());
        all.add(x.boy());
        for (int i = 0; i < 12; i++) {
            for (int what = 0; what < 4; what++) {
                all.add(x.fact(i, what));
                all.add(x.member(i, what));
                all.add(x.leech(i, what));
            }
            all.add(x.ahead(i, 12));
        }
        for (int slate = 0; slate < 4; slate++) {
            for (int sort = 0; sort < 3; sort++) {
                for (int i = 0; i < 10; i++) {
                    all.add(x.show(slate, sort, i, 0));
                    all.add(x.show(slate, sort, i, 1));
                }
            }
        }
        return all;
    }
}
