/** Promises 17 to 27: what is foretold, and what was seen. */
public final class ForetoldTest {
    private static final Check check = new Check("ForetoldTest");
    private static final String CLUB = "fact;fact a;fact;fact bc;fact d;member e;member b;member;"
            + "common;striped;greedy;bishop;muff;on 0 0;on 3 1";
    private static final String FOUR = "fact;fact;fact;fact;member abcd;member ab;common;bishop";

    public static void main(String[] args) {
        ahead();
        gone();
        boy();
        soonest();
        soonestRefused();
        order();
        orderRefused();
        most();
        mostFirst();
        mostRefused();
        sound();
        seenAndKinds();
        seenRefused();
        seenIsOfNow();
        seenIsOfHimAlone();
        seenIsOfThisClub();
        ask();
        check.end();
    }

    private static void ahead() {
        CountedClub x = CountedClub.of(CLUB);
        int[] first = {31, 15, 7, 3, 3};
        for (int n = 0; n < 5; n++) {
            check.due("ahead(0, " + n + ")", x.ahead(0, n), first[n]);
        }
        check.due("ahead(1, 1)", x.ahead(1, 1), 0);
        check.due("ahead(0, 40)", x.ahead(0, 40), 3);
        check.due("nothing is done", x.count(3), 0);
        check.due("nothing is lost", x.member(0, 0), 31);
        check.due("nothing to undo", x.count(9), 0);
        check.unchanged(x, "ahead(3, 41)", LeechClub.UNKNOWN, () -> x.ahead(3, 41));
        check.unchanged(x, "ahead(-1, 0)", LeechClub.UNKNOWN, () -> x.ahead(-1, 0));
        check.unchanged(x, "ahead(0, 41)", LeechClub.OUTSIDE, () -> x.ahead(0, 41));
        check.unchanged(x, "ahead(0, -1)", LeechClub.OUTSIDE, () -> x.ahead(0, -1));
    }

    private static void gone() {
        CountedClub x = CountedClub.of(CLUB);
        int[] due = {LeechClub.NONE, LeechClub.NONE, 3, 2, 1};
        for (int f = 0; f < 5; f++) {
            check.due("gone(0, " + f + ")", x.gone(0, f), due[f]);
        }
        check.due("gone(1, 1)", x.gone(1, 1), 1);
        check.due("gone(1, 2), not known now", x.gone(1, 2), 0);
        check.due("gone(2, 0), not known now", x.gone(2, 0), 0);
        check.due("nothing is done", x.member(0, 0), 31);
        check.unchanged(x, "gone(3, 0)", LeechClub.UNKNOWN, () -> x.gone(3, 0));
        check.unchanged(x, "gone(-1, 0)", LeechClub.UNKNOWN, () -> x.gone(-1, 0));
        check.unchanged(x, "gone(0, 5)", LeechClub.UNKNOWN, () -> x.gone(0, 5));
        check.unchanged(x, "gone(0, -1)", LeechClub.UNKNOWN, () -> x.gone(0, -1));
    }

    private static void boy() {
        CountedClub x = CountedClub.of("fact;fact a;fact;fact b;member abcd;common;bishop");
        check.due("an empty basin", x.boy(), 0);
        x.put(0, 0);
        x.minute(2);
        x.put(0, LeechClub.NONE);
        x.salt(0);
        check.due("basin", x.count(4), 12);
        check.due("he lacks what 3 leans on", x.boy(), 4);
        x.put(0, 0);
        x.minute(1);
        x.put(0, LeechClub.NONE);
        x.salt(0);
        check.due("basin", x.count(4), 14);
        check.due("he lacks 0 yet, far below 3", x.boy(), 4);
        x.put(1, 0);
        x.minute(1);
        x.put(1, LeechClub.NONE);
        x.salt(1);
        check.due("now he could do all", x.boy(), 15);
    }

    private static void soonest(CountedClub x, int lose, int keep, int minutes, int kind) {
        String call = "soonest(0, " + lose + ", " + keep + ", ";
        check.due(call + "0)", x.soonest(0, lose, keep, 0), minutes);
        check.due(call + "1)", x.soonest(0, lose, keep, 1), kind);
    }

    private static void soonest() {
        CountedClub x = CountedClub.of(CLUB);
        soonest(x, 0, 31, 0, 0);
        soonest(x, 16, 15, 1, 0);
        soonest(x, 24, 7, 1, 1);
        soonest(x, 28, 3, 1, 2);
        soonest(x, 1, 4, 1, 3);
        soonest(x, 31, 0, 2, 2);
        soonest(x, 31, 1, LeechClub.NONE, LeechClub.NONE);
        soonest(x, 1, 16, LeechClub.NONE, LeechClub.NONE);
        soonest(x, 1, 1, LeechClub.NONE, LeechClub.NONE);
        check.due("one who knows nothing keeps nothing", x.soonest(2, 0, 1, 0), LeechClub.NONE);
        check.due("one who knows nothing loses all", x.soonest(2, 31, 0, 0), 0);
        check.due("nothing is done", x.member(0, 0), 31);
        CountedClub seven = CountedClub.of("fact;fact;fact;fact;fact;fact;fact;fact;fact;fact;fact;fact;member abcdefghijkl");
        soonest(seven, 3, 4092, 2, 3);
        soonest(seven, 7, 4088, 3, 4);
        soonest(seven, 4095 - 2048, 2048, 11, 4);
        soonest(seven, 4095, 0, 12, 4);
        soonest(seven, 4080, 15, LeechClub.NONE, LeechClub.NONE);
        soonest(seven, 3840, 255, 2, 1);
        CountedClub on = CountedClub.of("fact;fact;fact;member abc;muff;on 0 0");
        soonest(on, 4, 3, 1, 0);
    }

    private static void soonestRefused() {
        CountedClub x = CountedClub.of(CLUB);
        check.unchanged(x, "no such member", LeechClub.UNKNOWN, () -> x.soonest(3, 0, 0, 2));
        check.unchanged(x, "no such member", LeechClub.UNKNOWN, () -> x.soonest(-1, 0, 0, 0));
        check.unchanged(x, "bits to lose", LeechClub.UNKNOWN, () -> x.soonest(0, 32, 0, 0));
        check.unchanged(x, "bits to keep", LeechClub.UNKNOWN, () -> x.soonest(0, 0, 32, 2));
        check.unchanged(x, "bits below 0", LeechClub.UNKNOWN, () -> x.soonest(0, -1, 0, 0));
        check.unchanged(x, "bits below 0", LeechClub.UNKNOWN, () -> x.soonest(0, 0, Integer.MIN_VALUE, 0));
        check.unchanged(x, "what 2", LeechClub.OUTSIDE, () -> x.soonest(0, 0, 0, 2));
        check.unchanged(x, "what -1", LeechClub.OUTSIDE, () -> x.soonest(0, 0, 0, -1));
    }

    private static void order() {
        CountedClub x = CountedClub.of("fact;fact;fact;fact;fact;fact;fact;fact;fact;fact;fact;fact;member abcdefghijkl;muff;on 0 0");
        check.due("nothing to do", x.order(0, 0, 4095), 0);
        check.due("common", x.order(0, 2048, 2047), 1);
        check.due("striped", x.order(0, 3072, 1023), 2);
        check.due("greedy", x.order(0, 3584, 511), 3);
        check.due("bishop", x.order(0, 1, 4094), 4);
        check.due("bishop bishop", x.order(0, 3, 4092), 44);
        check.due("bishop three times, though it has room for two", x.order(0, 7, 4088), 444);
        check.due("common greedy", x.order(0, 3840, 255), 13);
        check.due("striped greedy", x.order(0, 3968, 127), 23);
        check.due("common bishop", x.order(0, 2049, 2046), 14);
        check.due("common common bishop as striped bishop", x.order(0, 3073, 1022), 24);
        check.due("common bishop bishop", x.order(0, 2051, 2044), 144);
        check.due("greedy three times", x.order(0, 4088, 7), 333);
        check.due("common greedy greedy", x.order(0, 4064, 31), 133);
        check.due("more than three", x.order(0, 4092, 3), LeechClub.NONE);
        check.due("never", x.order(0, 1, 1), LeechClub.NONE);
        check.due("nothing is done", x.member(0, 0), 4095);
        CountedClub leaning = CountedClub.of("fact;fact a;fact;fact bc;fact d;member e");
        check.due("all of a chain", leaning.order(0, 31, 0), 23);
        check.due("the one it leans on", leaning.order(0, 1, 4), 4);
    }

    private static void orderRefused() {
        CountedClub x = CountedClub.of(CLUB);
        check.unchanged(x, "no such member", LeechClub.UNKNOWN, () -> x.order(3, 0, 0));
        check.unchanged(x, "no such member", LeechClub.UNKNOWN, () -> x.order(-1, 0, 0));
        check.unchanged(x, "bits to lose", LeechClub.UNKNOWN, () -> x.order(0, 32, 0));
        check.unchanged(x, "bits to keep", LeechClub.UNKNOWN, () -> x.order(0, 0, 32));
        check.unchanged(x, "bits below 0", LeechClub.UNKNOWN, () -> x.order(0, -1, 0));
    }

    private static void most(CountedClub x, int c, int n, int... due) {
        check.due("most(" + c + ", " + n + ", NONE)", x.most(c, n, LeechClub.NONE), due[0]);
        for (int l = 0; l + 1 < due.length; l++) {
            check.due("most(" + c + ", " + n + ", " + l + ")", x.most(c, n, l), due[l + 1]);
        }
    }

    private static void most() {
        CountedClub x = CountedClub.of(FOUR);
        most(x, 4, 10, 4, -1, -1);
        most(x, 3, 1, 4, -1, 0);
        most(x, 2, 2, 4, -1, 0);
        most(x, 2, 1, 3, 0, 0);
        most(x, 1, 2, -1, -1, -1);
        most(x, 1, 3, 1, 0, 1);
        most(x, 0, 10, -1, -1, -1);
        most(x, 3, 0, -1, -1, -1);
        most(x, 4, 0, 4, -1, -1);
        check.due("nothing is put", x.count(5), 3);
        check.due("nothing is done", x.member(0, 0), 15);
        CountedClub none = CountedClub.of("common");
        most(none, 0, 10, 0, -1);
    }

    private static void mostFirst() {
        CountedClub x = CountedClub.of("fact;fact;member ab;member ab;common;common;common;on 1 0");
        most(x, 1, 1, 1, -1, -1, 1);
        CountedClub y = CountedClub.of("fact;fact;member ab;member ab;common;bishop;common;common");
        most(y, 1, 1, 2, -1, 0, -1, 1);
        CountedClub z = CountedClub.of("fact;fact;fact;member abc;member;muff;muff;muff;muff;muff");
        most(z, 1, 1, 1, -1, -1, -1, 0, 0);
        z.put(4, 1);
        most(z, 1, 1, 1, -1, -1, 0, 0, -1);
        z.put(4, 0);
        z.minute(3);
        most(z, 0, 0, 0, -1, -1, -1, -1, -1);
    }

    private static void mostRefused() {
        CountedClub x = CountedClub.of(FOUR);
        check.unchanged(x, "no such leech", LeechClub.UNKNOWN, () -> x.most(13, 11, 2));
        check.unchanged(x, "no such leech", LeechClub.UNKNOWN, () -> x.most(0, 0, -2));
        check.unchanged(x, "c 13", LeechClub.OUTSIDE, () -> x.most(13, 0, 0));
        check.unchanged(x, "c -1", LeechClub.OUTSIDE, () -> x.most(-1, 0, 0));
        check.unchanged(x, "n 11", LeechClub.OUTSIDE, () -> x.most(0, 11, 0));
        check.unchanged(x, "n -1", LeechClub.OUTSIDE, () -> x.most(0, -1, LeechClub.NONE));
        check.due("c 12, n 10", x.most(12, 10, LeechClub.NONE), 4);
    }

    private static void sound() {
        CountedClub x = CountedClub.of(CLUB);
        check.due("above", x.sound(0, 3, 0), 3);
        check.due("below", x.sound(0, 3, 1), 5);
        check.due("above of two", x.sound(1, 2, 0), 4);
        check.due("below of two", x.sound(1, 2, 1), 25);
        check.due("above of five", x.sound(4, 4, 0), 1024);
        check.due("below of five", x.sound(4, 4, 1), 3125);
        check.due("never so, above", x.sound(4, 0, 0), 0);
        check.due("never so, below", x.sound(4, 0, 1), 1);
        check.due("always so, above", x.sound(4, 5, 0), 1);
        check.due("always so, below", x.sound(4, 5, 1), 1);
        check.unchanged(x, "no such fact", LeechClub.UNKNOWN, () -> x.sound(5, 6, 2));
        check.unchanged(x, "no such fact", LeechClub.UNKNOWN, () -> x.sound(-1, 0, 0));
        check.unchanged(x, "q 6", LeechClub.OUTSIDE, () -> x.sound(0, 6, 0));
        check.unchanged(x, "q -1", LeechClub.OUTSIDE, () -> x.sound(0, -1, 0));
        check.unchanged(x, "part 2", LeechClub.OUTSIDE, () -> x.sound(0, 1, 2));
        check.unchanged(x, "part -1", LeechClub.OUTSIDE, () -> x.sound(0, 1, -1));
    }

    private static void seenAndKinds() {
        CountedClub x = CountedClub.of(FOUR);
        check.due("nothing seen", x.kinds(), 31);
        check.due("nothing to forget", x.forget(), 0);
        check.due("seen", x.seen(0, 1, 0, 1), 1);
        check.due("not deep", x.kinds(), 7);
        check.due("seen", x.seen(0, 1, 1, 1), 2);
        check.due("not greedy", x.kinds(), 3);
        check.due("seen", x.seen(0, 1, 3, 0), 3);
        check.due("it says no more", x.kinds(), 3);
        check.due("seen", x.seen(0, 1, 2, 1), 4);
        check.due("common", x.kinds(), 1);
        check.due("seen", x.seen(0, 1, 2, 0), 5);
        check.due("none", x.kinds(), 0);
        check.due("none to part", x.ask(0, 1), LeechClub.NONE);
        check.due("forget", x.forget(), 5);
        check.due("count(7)", x.count(7), 0);
        check.due("all again", x.kinds(), 31);
        x.seen(0, 3, 3, 1);
        check.due("deep", x.kinds(), 24);
        x.seen(0, 3, 2, 1);
        check.due("the bishop was off by then", x.kinds(), 8);
        x.forget();
        x.seen(0, 6, 0, 1);
        check.due("the common had room for three", x.kinds(), 1);
    }

    private static void seenRefused() {
        CountedClub x = CountedClub.of(FOUR);
        for (int i = 1; i <= 6; i++) {
            check.unchanged(x, "no such member", LeechClub.UNKNOWN, () -> x.seen(2, 0, 0, 0));
            check.due("seen", x.seen(1, i, 0, 0), i);
        }
        check.unchanged(x, "a seventh", LeechClub.FULL, () -> x.seen(0, 1, 0, 0));
        check.unchanged(x, "no such member", LeechClub.UNKNOWN, () -> x.seen(-1, 0, 0, 0));
        check.unchanged(x, "no such fact", LeechClub.UNKNOWN, () -> x.seen(0, 0, 4, 0));
        check.unchanged(x, "no such fact", LeechClub.UNKNOWN, () -> x.seen(0, 1, -1, 0));
        check.unchanged(x, "n 0", LeechClub.OUTSIDE, () -> x.seen(0, 0, 0, 0));
        check.unchanged(x, "n 7", LeechClub.OUTSIDE, () -> x.seen(0, 7, 0, 0));
        check.unchanged(x, "knew 2", LeechClub.OUTSIDE, () -> x.seen(0, 1, 0, 2));
        check.unchanged(x, "knew -1", LeechClub.OUTSIDE, () -> x.seen(0, 1, 0, -1));
    }

    private static void seenIsOfNow() {
        CountedClub x = CountedClub.of("fact;fact;member a;common;on 0 0");
        x.seen(0, 1, 0, 0);
        seenNow(x, "he knows 0 alone, all take it", 31, LeechClub.NONE);
        x.read(0, 1);
        seenNow(x, "behind read, a common takes 1 and leaves 0", 30, 1);
        x.undo();
        seenNow(x, "behind undo", 31, LeechClub.NONE);
        x.read(0, 1);
        x.keep(0);
        x.minute(1);
        seenNow(x, "behind a minute", 31, LeechClub.NONE);
        x.undo();
        seenNow(x, "behind the minute undone", 30, 1);
        x.minute(2);
        seenNow(x, "he knows nothing", 31, LeechClub.NONE);
        x.back(0);
        seenNow(x, "behind back", 30, 1);
        x.seen(0, 1, 1, 1);
        check.due("a bishop alone leaves 1", x.kinds(), 24);
        x.minute(1);
        check.due("1 is lost, none leaves it", x.kinds(), 0);
        check.due("none to part", x.ask(0, 1), LeechClub.NONE);
        check.due("seen is as many", x.count(7), 2);
    }

    private static void seenNow(CountedClub x, String when, int kinds, int ask) {
        check.due(when + ": kinds()", x.kinds(), kinds);
        check.due(when + ": ask(0, 1)", x.ask(0, 1), ask);
        check.due(when + ": what was seen stays", x.count(7), 1);
    }

    /** What else changes tells nothing of the kinds: leeches on him, other members, what the basin has. */
    private static void seenIsOfHimAlone() {
        CountedClub x = CountedClub.of(FOUR);
        x.seen(0, 1, 0, 1);
        x.put(0, 0);
        x.put(1, 0);
        check.due("nobody else is on him", x.kinds(), 7);
        x.put(0, 1);
        x.put(1, 1);
        x.minute(2);
        check.due("another lost all", x.member(1, 0), 0);
        check.due("he did not", x.kinds(), 7);
        x.seen(1, 1, 0, 0);
        check.due("of the other too", x.kinds(), 7);
        x.read(1, 0);
        x.read(1, 1);
        check.due("by now striped and greedy leave him nothing", x.kinds(), 6);
        check.due("the two are parted by fact 1", x.ask(0, 1), 1);
    }

    /** A club told anew empties what was seen, also of members that there are no more. */
    private static void seenIsOfThisClub() {
        CountedClub x = CountedClub.of(FOUR);
        x.seen(1, 1, 0, 0);
        check.due("deep, or more than one", x.kinds(), 30);
        x.tell("club;fact;member a");
        check.due("told", x.club(), 3);
        check.due("nothing is seen", x.count(7), 0);
        check.due("all kinds", x.kinds(), 31);
        check.due("a first one", x.seen(0, 1, 0, 1), 1);
        check.due("none leaves it", x.kinds(), 0);
    }

    private static void ask() {
        CountedClub x = CountedClub.of(FOUR);
        check.due("three against two, the first such", x.ask(0, 1), 0);
        check.due("behind three minutes", x.ask(0, 3), 3);
        check.due("of another", x.ask(1, 1), 1);
        x.seen(0, 1, 0, 1);
        x.seen(0, 1, 1, 1);
        check.due("common or striped", x.ask(0, 1), 2);
        check.due("common or striped, of another", x.ask(1, 1), 0);
        check.due("common or striped, of another, later", x.ask(1, 2), LeechClub.NONE);
        x.seen(0, 1, 2, 1);
        check.due("one is left", x.ask(0, 1), LeechClub.NONE);
        check.unchanged(x, "no such member", LeechClub.UNKNOWN, () -> x.ask(2, 0));
        check.unchanged(x, "no such member", LeechClub.UNKNOWN, () -> x.ask(-1, 1));
        check.unchanged(x, "n 0", LeechClub.OUTSIDE, () -> x.ask(0, 0));
        check.unchanged(x, "n 7", LeechClub.OUTSIDE, () -> x.ask(0, 7));
        x.forget();
        check.due("n 6", x.ask(0, 6), 0);
    }
}
