/** Ints at the ends of their range for every argument of every call. */
public final class EndsTest {
    private static final Check check = new Check("EndsTest");
    private static final int[] ENDS = {Integer.MIN_VALUE, Integer.MIN_VALUE + 1, Integer.MAX_VALUE - 1, Integer.MAX_VALUE};
    private static final int UNKNOWN = LeechClub.UNKNOWN, OUTSIDE = LeechClub.OUTSIDE, INDEX = LeechClub.INDEX;

    public static void main(String[] args) {
        for (int end : ENDS) {
            check.says("an argument of " + end);
            told(Clubs.rich(), end);
            told(withSlates(Clubs.full()), end);
            done(Clubs.rich(), end);
            done(withSlates(Clubs.full()), end);
            foretold(Clubs.rich(), end);
            foretold(withSlates(Clubs.full()), end);
            seen(Clubs.rich(), end);
            seen(withSlates(Clubs.full()), end);
            slates(Clubs.rich(), end);
            ofNothing(end);
        }
        whatIsTaken();
        check.end();
    }

    private static CountedClub withSlates(CountedClub x) {
        Clubs.addSlates(x);
        return x;
    }

    private static void told(CountedClub x, int end) {
        check.unchanged(x, "write", OUTSIDE, () -> x.write(end));
        check.unchanged(x, "fact, fact", UNKNOWN, () -> x.fact(end, 0));
        check.unchanged(x, "fact, what", OUTSIDE, () -> x.fact(0, end));
        check.unchanged(x, "member, member", UNKNOWN, () -> x.member(end, 0));
        check.unchanged(x, "member, what", OUTSIDE, () -> x.member(0, end));
        check.unchanged(x, "leech, leech", UNKNOWN, () -> x.leech(end, 0));
        check.unchanged(x, "leech, what", OUTSIDE, () -> x.leech(0, end));
        check.unchanged(x, "as, leech", UNKNOWN, () -> x.as(end, 0));
        check.unchanged(x, "as, kind", OUTSIDE, () -> x.as(0, end));
        check.unchanged(x, "count", OUTSIDE, () -> x.count(end));
    }

    private static void done(CountedClub x, int end) {
        x.minute(1);
        check.unchanged(x, "minute", OUTSIDE, () -> x.minute(end));
        check.unchanged(x, "put, leech", UNKNOWN, () -> x.put(end, 0));
        check.unchanged(x, "put, leech, off", UNKNOWN, () -> x.put(end, LeechClub.NONE));
        check.unchanged(x, "put, member", UNKNOWN, () -> x.put(0, end));
        check.unchanged(x, "salt", UNKNOWN, () -> x.salt(end));
        check.unchanged(x, "read, member", UNKNOWN, () -> x.read(end, 0));
        check.unchanged(x, "read, fact", UNKNOWN, () -> x.read(0, end));
        check.unchanged(x, "keep", UNKNOWN, () -> x.keep(end));
        check.unchanged(x, "back", UNKNOWN, () -> x.back(end));
    }

    private static void foretold(CountedClub x, int end) {
        check.unchanged(x, "ahead, member", UNKNOWN, () -> x.ahead(end, 0));
        check.unchanged(x, "ahead, n", OUTSIDE, () -> x.ahead(0, end));
        check.unchanged(x, "gone, member", UNKNOWN, () -> x.gone(end, 0));
        check.unchanged(x, "gone, fact", UNKNOWN, () -> x.gone(0, end));
        check.unchanged(x, "soonest, member", UNKNOWN, () -> x.soonest(end, 0, 0, 0));
        check.unchanged(x, "soonest, lose", UNKNOWN, () -> x.soonest(0, end, 0, 0));
        check.unchanged(x, "soonest, keep", UNKNOWN, () -> x.soonest(0, 0, end, 0));
        check.unchanged(x, "soonest, what", OUTSIDE, () -> x.soonest(0, 0, 0, end));
        check.unchanged(x, "order, member", UNKNOWN, () -> x.order(end, 0, 0));
        check.unchanged(x, "order, lose", UNKNOWN, () -> x.order(0, end, 0));
        check.unchanged(x, "order, keep", UNKNOWN, () -> x.order(0, 0, end));
        check.unchanged(x, "most, c", OUTSIDE, () -> x.most(end, 0, 0));
        check.unchanged(x, "most, n", OUTSIDE, () -> x.most(0, end, LeechClub.NONE));
        check.unchanged(x, "most, leech", UNKNOWN, () -> x.most(0, 0, end));
        check.unchanged(x, "sound, fact", UNKNOWN, () -> x.sound(end, 0, 0));
        check.unchanged(x, "sound, q", OUTSIDE, () -> x.sound(0, end, 0));
        check.unchanged(x, "sound, part", OUTSIDE, () -> x.sound(0, 0, end));
    }

    private static void seen(CountedClub x, int end) {
        check.unchanged(x, "seen, member", UNKNOWN, () -> x.seen(end, 1, 0, 0));
        check.unchanged(x, "seen, n", OUTSIDE, () -> x.seen(0, end, 0, 0));
        check.unchanged(x, "seen, fact", UNKNOWN, () -> x.seen(0, 1, end, 0));
        check.unchanged(x, "seen, knew", OUTSIDE, () -> x.seen(0, 1, 0, end));
        check.unchanged(x, "ask, member", UNKNOWN, () -> x.ask(end, 1));
        check.unchanged(x, "ask, n", OUTSIDE, () -> x.ask(0, end));
    }

    private static void slates(CountedClub x, int end) {
        check.unchanged(x, "slate, slate", UNKNOWN, () -> x.slate(end, 0, 1));
        check.unchanged(x, "slate, sort", OUTSIDE, () -> x.slate(0, end, 1));
        check.unchanged(x, "slate, n", end < 0 ? LeechClub.SIZE : OUTSIDE, () -> x.slate(0, 0, end));
        check.unchanged(x, "chalk, slate", UNKNOWN, () -> x.chalk(end, 0, 0, 1, 1));
        check.unchanged(x, "chalk, sort", OUTSIDE, () -> x.chalk(0, end, 0, 1, 1));
        check.unchanged(x, "chalk, above", OUTSIDE, () -> x.chalk(2, 2, 0, end, 1));
        check.unchanged(x, "chalk, below", OUTSIDE, () -> x.chalk(2, 2, 0, 1, end));
        check.unchanged(x, "show, slate", UNKNOWN, () -> x.show(end, 0, 0, 0));
        check.unchanged(x, "show, sort", OUTSIDE, () -> x.show(0, end, 0, 0));
        for (int s = 0; s < 3; s++) {
            int slate = s;
            check.unchanged(x, "chalk, i", INDEX, () -> x.chalk(slate, slate, end, 1, 1));
            check.unchanged(x, "show, i", INDEX, () -> x.show(slate, slate, end, 0));
            check.unchanged(x, "show, what", OUTSIDE, () -> x.show(slate, slate, 0, end));
            check.unchanged(x, "copy, i", INDEX, () -> x.copy(slate, end, slate, 0, 1));
            check.unchanged(x, "copy, i, none", INDEX, () -> x.copy(slate, end, slate, 0, 0));
            check.unchanged(x, "copy, j", INDEX, () -> x.copy(slate, 0, slate, end, 1));
            check.unchanged(x, "copy, j, none", INDEX, () -> x.copy(slate, 0, slate, end, 0));
            check.unchanged(x, "copy, n", INDEX, () -> x.copy(slate, 0, slate, 0, end));
            check.unchanged(x, "copy, n, from 1", INDEX, () -> x.copy(slate, 1, slate, 1, end));
            check.unchanged(x, "copy, i, j, n", INDEX, () -> x.copy(slate, end, slate, end, end));
        }
        check.unchanged(x, "reckon, slate", UNKNOWN, () -> x.reckon(end, 0, 0, 0, 0));
        check.unchanged(x, "reckon, i", INDEX, () -> x.reckon(2, end, 0, 0, 0));
        check.unchanged(x, "reckon, j", INDEX, () -> x.reckon(2, 0, end, 0, 0));
        check.unchanged(x, "reckon, k", INDEX, () -> x.reckon(2, 0, 0, end, 0));
        check.unchanged(x, "reckon, how", OUTSIDE, () -> x.reckon(2, 0, 0, 0, end));
        check.unchanged(x, "copy, from", UNKNOWN, () -> x.copy(end, 0, 0, 0, 1));
        check.unchanged(x, "copy, to", UNKNOWN, () -> x.copy(0, 0, end, 0, 1));
        check.unchanged(x, "drop", UNKNOWN, () -> x.drop(end));
    }

    /** Where there is nothing, every argument an end: the first refusal of each call that has one. */
    private static void ofNothing(int end) {
        CountedClub x = new CountedClub();
        check.unchanged(x, "write", OUTSIDE, () -> x.write(end));
        check.unchanged(x, "fact", UNKNOWN, () -> x.fact(end, end));
        check.unchanged(x, "member", UNKNOWN, () -> x.member(end, end));
        check.unchanged(x, "leech", UNKNOWN, () -> x.leech(end, end));
        check.unchanged(x, "as", UNKNOWN, () -> x.as(end, end));
        check.unchanged(x, "minute", OUTSIDE, () -> x.minute(end));
        check.unchanged(x, "put", UNKNOWN, () -> x.put(end, end));
        check.unchanged(x, "salt", UNKNOWN, () -> x.salt(end));
        check.unchanged(x, "read", UNKNOWN, () -> x.read(end, end));
        check.unchanged(x, "keep", UNKNOWN, () -> x.keep(end));
        check.unchanged(x, "back", UNKNOWN, () -> x.back(end));
        check.unchanged(x, "ahead", UNKNOWN, () -> x.ahead(end, end));
        check.unchanged(x, "gone", UNKNOWN, () -> x.gone(end, end));
        check.unchanged(x, "soonest", UNKNOWN, () -> x.soonest(end, end, end, end));
        check.unchanged(x, "order", UNKNOWN, () -> x.order(end, end, end));
        check.unchanged(x, "most", UNKNOWN, () -> x.most(end, end, end));
        check.unchanged(x, "sound", UNKNOWN, () -> x.sound(end, end, end));
        check.unchanged(x, "seen", UNKNOWN, () -> x.seen(end, end, end, end));
        check.unchanged(x, "ask", UNKNOWN, () -> x.ask(end, end));
        check.unchanged(x, "slate", UNKNOWN, () -> x.slate(end, end, end));
        check.unchanged(x, "chalk", UNKNOWN, () -> x.chalk(end, end, end, end, end));
        check.unchanged(x, "show", UNKNOWN, () -> x.show(end, end, end, end));
        check.unchanged(x, "reckon", UNKNOWN, () -> x.reckon(end, end, end, end, end));
        check.unchanged(x, "copy", UNKNOWN, () -> x.copy(end, end, end, end, end));
        check.unchanged(x, "drop", UNKNOWN, () -> x.drop(end));
        check.unchanged(x, "count", OUTSIDE, () -> x.count(end));
        CountedClub full = Clubs.full();
        check.unchanged(full, "soonest, all but the member", UNKNOWN, () -> full.soonest(0, end, end, end));
        check.unchanged(full, "seen, all but the member", UNKNOWN, () -> full.seen(0, end, end, end));
        check.unchanged(full, "most, all but the leech", OUTSIDE, () -> full.most(end, end, 0));
        check.unchanged(full, "sound, all but the fact", OUTSIDE, () -> full.sound(0, end, end));
    }

    /** An int may be any, and so may what a long is told of. */
    private static void whatIsTaken() {
        check.says("becomes a (ints), a times 1000000000 and b more (longs)");
        CountedClub x = new CountedClub();
        Clubs.addSlates(x);
        int[] ints = {2477207, 2477206, 477205, 477206};
        for (int i = 0; i < ENDS.length; i++) {
            check.due("chalk(0, 0, 0, " + ENDS[i] + ", .)", x.chalk(0, 0, 0, ENDS[i], ENDS[3 - i]), 1);
            check.due("show(0, 0, 0, 0)", x.show(0, 0, 0, 0), ints[i]);
        }
        check.due("chalk, least and least", x.chalk(1, 1, 0, ENDS[0], ENDS[0]), 1);
        check.due("show", x.show(1, 1, 0, 0), 2860503);
        check.due("chalk, most and least", x.chalk(1, 1, 0, ENDS[3], ENDS[0]), 1);
        check.due("show", x.show(1, 1, 0, 0), 909092);
    }
}
