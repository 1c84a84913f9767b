import java.util.ArrayList;
import java.util.List;
import java.util.function.ToIntFunction;

/** A LeechClub whose calls are counted, as no more than 512 are promised, and can be done again on a new one. */
final class CountedClub {
    private static final int PROMISED = 512;

    private final LeechClub club = new LeechClub();
    private final List<ToIntFunction<LeechClub>> calls = new ArrayList<>();
    private final List<Integer> answers = new ArrayList<>();

    /** A club of which a text, that has no fault, is told. */
    static CountedClub of(String text) {
        CountedClub x = new CountedClub();
        x.tell(text);
        if (x.club() < 0) {
            throw new IllegalStateException("a test's text has a fault: " + text);
        }
        return x;
    }

    void tell(String text) {
        for (int i = 0; i < text.length(); i++) {
            write(text.charAt(i));
        }
    }

    /** A new object behind the same calls; the same calls always give the same answers. */
    CountedClub again() {
        CountedClub other = new CountedClub();
        for (int i = 0; i < calls.size(); i++) {
            int answer = other.call(calls.get(i));
            if (answer != answers.get(i)) {
                throw new IllegalStateException("call " + i + " of the same calls answered " + answer + ", not " + answers.get(i));
            }
        }
        return other;
    }

    int calls() {
        return calls.size();
    }

    int call(ToIntFunction<LeechClub> call) {
        if (calls.size() == PROMISED) {
            throw new IllegalStateException("a test makes more calls than are promised");
        }
        int answer = call.applyAsInt(club);
        calls.add(call);
        answers.add(answer);
        return answer;
    }

    int write(int letter) {
        return call(c -> c.write(letter));
    }

    int erase() {
        return call(LeechClub::erase);
    }

    int fault() {
        return call(LeechClub::fault);
    }

    int club() {
        return call(LeechClub::club);
    }

    int fact(int fact, int what) {
        return call(c -> c.fact(fact, what));
    }

    int member(int member, int what) {
        return call(c -> c.member(member, what));
    }

    int leech(int leech, int what) {
        return call(c -> c.leech(leech, what));
    }

    int as(int leech, int kind) {
        return call(c -> c.as(leech, kind));
    }

    int minute(int n) {
        return call(c -> c.minute(n));
    }

    int put(int leech, int member) {
        return call(c -> c.put(leech, member));
    }

    int salt(int leech) {
        return call(c -> c.salt(leech));
    }

    int read(int member, int fact) {
        return call(c -> c.read(member, fact));
    }

    int undo() {
        return call(LeechClub::undo);
    }

    int keep(int k) {
        return call(c -> c.keep(k));
    }

    int back(int k) {
        return call(c -> c.back(k));
    }

    int ahead(int member, int n) {
        return call(c -> c.ahead(member, n));
    }

    int gone(int member, int fact) {
        return call(c -> c.gone(member, fact));
    }

    int boy() {
        return call(LeechClub::boy);
    }

    int soonest(int member, int lose, int keep, int what) {
        return call(c -> c.soonest(member, lose, keep, what));
    }

    int order(int member, int lose, int keep) {
        return call(c -> c.order(member, lose, keep));
    }

    int most(int c, int n, int leech) {
        return call(club -> club.most(c, n, leech));
    }

    int sound(int fact, int q, int part) {
        return call(c -> c.sound(fact, q, part));
    }

    int seen(int member, int n, int fact, int knew) {
        return call(c -> c.seen(member, n, fact, knew));
    }

    int forget() {
        return call(LeechClub::forget);
    }

    int kinds() {
        return call(LeechClub::kinds);
    }

    int ask(int member, int n) {
        return call(c -> c.ask(member, n));
    }

    int slate(int slate, int sort, int n) {
        return call(c -> c.slate(slate, sort, n));
    }

    int chalk(int slate, int sort, int i, int a, int b) {
        return call(c -> c.chalk(slate, sort, i, a, b));
    }

    int show(int slate, int sort, int i, int what) {
        return call(c -> c.show(slate, sort, i, what));
    }

    int reckon(int slate, int i, int j, int k, int how) {
        return call(c -> c.reckon(slate, i, j, k, how));
    }

    int copy(int from, int i, int to, int j, int n) {
        return call(c -> c.copy(from, i, to, j, n));
    }

    int drop(int slate) {
        return call(c -> c.drop(slate));
    }

    int count(int what) {
        return call(c -> c.count(what));
    }
}
