/** Ints at the ends of their range for every argument of every call. */
public final class EndsTest {
    private static final Check check = new Check("EndsTest");
    private static final int[] ENDS = {Integer.MIN_VALUE, Integer.MIN_VALUE + 1, Integer.MAX_VALUE - 1, Integer.MAX_VALUE};
    private static final int UNKNOWN = LeechClub.UNKNOWN, OUTSIDE = LeechClub.OUTSIDE, INDEX = LeechClub.INDEX;

    public static void main(String[] args) {
        check.says("UNKNOWN (no such FACT, bits of such, MEMBER, LEECH, SLATE), OUTSIDE (another number is not as told)",
                "INDEX -14 (a place that there is not, or beyond an end, or fewer than none)", "SIZE -16 (fewer than none)");
        for (int end : ENDS) {
            told(Clubs.rich(), end);
            told(withSlates(Clubs.full()), end);
            done(Clubs.rich(), end);
            done(withSlates(Clubs.full()), end);
            foretold(Clubs.rich(), end);
            foretold(withSlates(Clubs.full()), end);
            seen(Clubs.rich(), end);
            seen(withSlates(Clubs.full()), end);
            slates(Clubs.rich(), end);
            ofNothing(end);
        }
        whatIsTaken();
        check.end();
    }

    private static CountedClub withSlates(CountedClub x) {
        Clubs.addSlates(x);
        return x;
    }

    private static void told(CountedClub x, int end) {
        check.unchanged(x, "write: " + end, OUTSIDE, () -> x.write(end));
        check.unchanged(x, "fact, fact: " + end, UNKNOWN, () -> x.fact(end, 0));
        check.unchanged(x, "fact, what: " + end, OUTSIDE, () -> x.fact(0, end));
        check.unchanged(x, "member, member: " + end, UNKNOWN, () -> x.member(end, 0));
        check.unchanged(x, "member, what: " + end, OUTSIDE, () -> x.member(0, end));
        check.unchanged(x, "leech, leech: " + end, UNKNOWN, () -> x.leech(end, 0));
        check.unchanged(x, "leech, what: " + end, OUTSIDE, () -> x.leech(0, end));
        check.unchanged(x, "as, leech: " + end, UNKNOWN, () -> x.as(end, 0));
        check.unchanged(x, "as, kind: " + end, OUTSIDE, () -> x.as(0, end));
        check.unchanged(x, "count: " + end, OUTSIDE, () -> x.count(end));
    }

    private static void done(CountedClub x, int end) {
        x.minute(1);
        check.unchanged(x, "minute: " + end, OUTSIDE, () -> x.minute(end));
        check.unchanged(x, "put, leech: " + end, UNKNOWN, () -> x.put(end, 0));
        check.unchanged(x, "put, leech, off: " + end, UNKNOWN, () -> x.put(end, LeechClub.NONE));
        check.unchanged(x, "put, member: " + end, UNKNOWN, () -> x.put(0, end));
        check.unchanged(x, "salt: " + end, UNKNOWN, () -> x.salt(end));
        check.unchanged(x, "read, member: " + end, UNKNOWN, () -> x.read(end, 0));
        check.unchanged(x, "read, fact: " + end, UNKNOWN, () -> x.read(0, end));
        check.unchanged(x, "keep: " + end, UNKNOWN, () -> x.keep(end));
        check.unchanged(x, "back: " + end, UNKNOWN, () -> x.back(end));
    }

    private static void foretold(CountedClub x, int end) {
        check.unchanged(x, "ahead, member: " + end, UNKNOWN, () -> x.ahead(end, 0));
        check.unchanged(x, "ahead, n: " + end, OUTSIDE, () -> x.ahead(0, end));
        check.unchanged(x, "gone, member: " + end, UNKNOWN, () -> x.gone(end, 0));
        check.unchanged(x, "gone, fact: " + end, UNKNOWN, () -> x.gone(0, end));
        check.unchanged(x, "soonest, member: " + end, UNKNOWN, () -> x.soonest(end, 0, 0, 0));
        check.unchanged(x, "soonest, lose: " + end, UNKNOWN, () -> x.soonest(0, end, 0, 0));
        check.unchanged(x, "soonest, keep: " + end, UNKNOWN, () -> x.soonest(0, 0, end, 0));
        check.unchanged(x, "soonest, what: " + end, OUTSIDE, () -> x.soonest(0, 0, 0, end));
        check.unchanged(x, "order, member: " + end, UNKNOWN, () -> x.order(end, 0, 0));
        check.unchanged(x, "order, lose: " + end, UNKNOWN, () -> x.order(0, end, 0));
        check.unchanged(x, "order, keep: " + end, UNKNOWN, () -> x.order(0, 0, end));
        check.unchanged(x, "most, c: " + end, OUTSIDE, () -> x.most(end, 0, 0));
        check.unchanged(x, "most, n: " + end, OUTSIDE, () -> x.most(0, end, LeechClub.NONE));
        check.unchanged(x, "most, leech: " + end, UNKNOWN, () -> x.most(0, 0, end));
        check.unchanged(x, "sound, fact: " + end, UNKNOWN, () -> x.sound(end, 0, 0));
        check.unchanged(x, "sound, q: " + end, OUTSIDE, () -> x.sound(0, end, 0));
        check.unchanged(x, "sound, part: " + end, OUTSIDE, () -> x.sound(0, 0, end));
    }

    private static void seen(CountedClub x, int end) {
        check.unchanged(x, "seen, member: " + end, UNKNOWN, () -> x.seen(end, 1, 0, 0));
        check.unchanged(x, "seen, n: " + end, OUTSIDE, () -> x.seen(0, end, 0, 0));
        check.unchanged(x, "seen, fact: " + end, UNKNOWN, () -> x.seen(0, 1, end, 0));
        check.unchanged(x, "seen, knew: " + end, OUTSIDE, () -> x.seen(0, 1, 0, end));
        check.unchanged(x, "ask, member: " + end, UNKNOWN, () -> x.ask(end, 1));
        check.unchanged(x, "ask, n: " + end, OUTSIDE, () -> x.ask(0, end));
    }

    private static void slates(CountedClub x, int end) {
        check.unchanged(x, "slate, slate: " + end, UNKNOWN, () -> x.slate(end, 0, 1));
        check.unchanged(x, "slate, sort: " + end, OUTSIDE, () -> x.slate(0, end, 1));
        check.unchanged(x, "slate, n: " + end, end < 0 ? LeechClub.SIZE : OUTSIDE, () -> x.slate(0, 0, end));
        check.unchanged(x, "chalk, slate: " + end, UNKNOWN, () -> x.chalk(end, 0, 0, 1, 1));
        check.unchanged(x, "chalk, sort: " + end, OUTSIDE, () -> x.chalk(0, end, 0, 1, 1));
        check.unchanged(x, "chalk, above: " + end, OUTSIDE, () -> x.chalk(2, 2, 0, end, 1));
        check.unchanged(x, "chalk, below: " + end, OUTSIDE, () -> x.chalk(2, 2, 0, 1, end));
        check.unchanged(x, "show, slate: " + end, UNKNOWN, () -> x.show(end, 0, 0, 0));
        check.unchanged(x, "show, sort: " + end, OUTSIDE, () -> x.show(0, end, 0, 0));
        for (int s = 0; s < 3; s++) {
            int slate = s;
            check.unchanged(x, "chalk, i: " + end, INDEX, () -> x.chalk(slate, slate, end, 1, 1));
            check.unchanged(x, "show, i: " + end, INDEX, () -> x.show(slate, slate, end, 0));
            check.unchanged(x, "show, what: " + end, OUTSIDE, () -> x.show(slate, slate, 0, end));
            check.unchanged(x, "copy, i: " + end, INDEX, () -> x.copy(slate, end, slate, 0, 1));
            check.unchanged(x, "copy, i, none: " + end, INDEX, () -> x.copy(slate, end, slate, 0, 0));
            check.unchanged(x, "copy, j: " + end, INDEX, () -> x.copy(slate, 0, slate, end, 1));
            check.unchanged(x, "copy, j, none: " + end, INDEX, () -> x.copy(slate, 0, slate, end, 0));
            check.unchanged(x, "copy, n: " + end, INDEX, () -> x.copy(slate, 0, slate, 0, end));
            check.unchanged(x, "copy, n, from 1: " + end, INDEX, () -> x.copy(slate, 1, slate, 1, end));
            check.unchanged(x, "copy, i, j, n: " + end, INDEX, () -> x.copy(slate, end, slate, end, end));
        }
        check.unchanged(x, "reckon, slate: " + end, UNKNOWN, () -> x.reckon(end, 0, 0, 0, 0));
        check.unchanged(x, "reckon, i: " + end, INDEX, () -> x.reckon(2, end, 0, 0, 0));
        check.unchanged(x, "reckon, j: " + end, INDEX, () -> x.reckon(2, 0, end, 0, 0));
        check.unchanged(x, "reckon, k: " + end, INDEX, () -> x.reckon(2, 0, 0, end, 0));
        check.unchanged(x, "reckon, how: " + end, OUTSIDE, () -> x.reckon(2, 0, 0, 0, end));
        check.unchanged(x, "copy, from: " + end, UNKNOWN, () -> x.copy(end, 0, 0, 0, 1));
        check.unchanged(x, "copy, to: " + end, UNKNOWN, () -> x.copy(0, 0, end, 0, 1));
        check.unchanged(x, "drop: " + end, UNKNOWN, () -> x.drop(end));
    }

    /** Where there is nothing, every argument an end: the first refusal of each call that has one. */
    private static void ofNothing(int end) {
        CountedClub x = new CountedClub();
        check.unchanged(x, "write: " + end, OUTSIDE, () -> x.write(end));
        check.unchanged(x, "fact: " + end, UNKNOWN, () -> x.fact(end, end));
        check.unchanged(x, "member: " + end, UNKNOWN, () -> x.member(end, end));
        check.unchanged(x, "leech: " + end, UNKNOWN, () -> x.leech(end, end));
        check.unchanged(x, "as: " + end, UNKNOWN, () -> x.as(end, end));
        check.unchanged(x, "minute: " + end, OUTSIDE, () -> x.minute(end));
        check.unchanged(x, "put: " + end, UNKNOWN, () -> x.put(end, end));
        check.unchanged(x, "salt: " + end, UNKNOWN, () -> x.salt(end));
        check.unchanged(x, "read: " + end, UNKNOWN, () -> x.read(end, end));
        check.unchanged(x, "keep: " + end, UNKNOWN, () -> x.keep(end));
        check.unchanged(x, "back: " + end, UNKNOWN, () -> x.back(end));
        check.unchanged(x, "ahead: " + end, UNKNOWN, () -> x.ahead(end, end));
        check.unchanged(x, "gone: " + end, UNKNOWN, () -> x.gone(end, end));
        check.unchanged(x, "soonest: " + end, UNKNOWN, () -> x.soonest(end, end, end, end));
        check.unchanged(x, "order: " + end, UNKNOWN, () -> x.order(end, end, end));
        check.unchanged(x, "most: " + end, UNKNOWN, () -> x.most(end, end, end));
        check.unchanged(x, "sound: " + end, UNKNOWN, () -> x.sound(end, end, end));
        check.unchanged(x, "seen: " + end, UNKNOWN, () -> x.seen(end, end, end, end));
        check.unchanged(x, "ask: " + end, UNKNOWN, () -> x.ask(end, end));
        check.unchanged(x, "slate: " + end, UNKNOWN, () -> x.slate(end, end, end));
        check.unchanged(x, "chalk: " + end, UNKNOWN, () -> x.chalk(end, end, end, end, end));
        check.unchanged(x, "show: " + end, UNKNOWN, () -> x.show(end, end, end, end));
        check.unchanged(x, "reckon: " + end, UNKNOWN, () -> x.reckon(end, end, end, end, end));
        check.unchanged(x, "copy: " + end, UNKNOWN, () -> x.copy(end, end, end, end, end));
        check.unchanged(x, "drop: " + end, UNKNOWN, () -> x.drop(end));
        check.unchanged(x, "count: " + end, OUTSIDE, () -> x.count(end));
        CountedClub full = Clubs.full();
        check.unchanged(full, "soonest, all but the member: " + end, UNKNOWN, () -> full.soonest(0, end, end, end));
        check.unchanged(full, "seen, all but the member: " + end, UNKNOWN, () -> full.seen(0, end, end, end));
        check.unchanged(full, "most, all but the leech: " + end, OUTSIDE, () -> full.most(end, end, 0));
        check.unchanged(full, "sound, all but the fact: " + end, OUTSIDE, () -> full.sound(0, end, end));
    }

    /** An int may be any, and so may what a long is told of. */
    private static void whatIsTaken() {
        check.says("becomes a (ints), a times 1000000000 and b more (longs)");
        CountedClub x = new CountedClub();
        Clubs.addSlates(x);
        int[] ints = {2477207, 2477206, 477205, 477206};
        for (int i = 0; i < ENDS.length; i++) {
            check.due("chalk(0, 0, 0, " + ENDS[i] + ", .)", x.chalk(0, 0, 0, ENDS[i], ENDS[3 - i]), 1);
            check.due("show(0, 0, 0, 0)", x.show(0, 0, 0, 0), ints[i]);
        }
        check.due("chalk, least and least", x.chalk(1, 1, 0, ENDS[0], ENDS[0]), 1);
        check.due("show", x.show(1, 1, 0, 0), 2860503);
        check.due("chalk, most and least", x.chalk(1, 1, 0, ENDS[3], ENDS[0]), 1);
        check.due("show", x.show(1, 1, 0, 0), 909092);
    }
}
