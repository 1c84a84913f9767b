/** Each sentence of the terms, and of promises 17 to 27, that names a boundary of what is foretold and what was seen. */
public final class ForetoldEdgesTest {
    private static final Check check = new Check("ForetoldEdgesTest");
    private static final int NONE = LeechClub.NONE;
    private static final String ALL_KNOWN = Clubs.TWELVE_FACTS + ";member abcdefghijkl;";
    private static final int COMMON = 1, STRIPED = 2, GREEDY = 4, BISHOP = 8, MUFF = 16;

    public static void main(String[] args) {
        aheadToForty();
        goneByForty();
        foretoldAtTheLastMinute();
        boy();
        soonestOfAll();
        soonestFirst();
        soonestBits();
        orderOfNoneToThree();
        orderFirst();
        orderBits();
        mostByC();
        mostByN();
        mostOfTheFull();
        mostOfNobody();
        mostRefused();
        soundByFifths();
        sixSeen();
        seenBounds();
        kindsByAll();
        kindsOfMany();
        askParts();
        askNone();
        askRefused();
        check.end();
    }

    private static void aheadToForty() {
        check.says("What a MEMBER KNOWS behind n MINUTES (0 .. 40), bits. UNKNOWN; OUTSIDE");
        CountedClub x = CountedClub.of(ALL_KNOWN + "member;muff;on 0 0");
        for (int n = 0; n <= 40; n++) {
            int minutes = n;
            check.unchanged(x, "ahead(0, " + n + ")", n >= 12 ? 0 : 4095 >> n << n, () -> x.ahead(0, minutes));
        }
        check.unchanged(x, "ahead(1, 40)", 0, () -> x.ahead(1, 40));
        check.unchanged(x, "ahead(0, 41)", LeechClub.OUTSIDE, () -> x.ahead(0, 41));
        check.unchanged(x, "ahead(0, -1)", LeechClub.OUTSIDE, () -> x.ahead(0, -1));
        check.unchanged(x, "ahead(2, 0)", LeechClub.UNKNOWN, () -> x.ahead(2, 0));
        check.unchanged(x, "ahead(-1, 0)", LeechClub.UNKNOWN, () -> x.ahead(-1, 0));
        CountedClub y = CountedClub.of(ALL_KNOWN + "common;bishop;on 0 0;on 1 0");
        for (int n = 0; n < 5; n++) {
            int foretold = y.ahead(0, 5 - n);
            check.due("what comes is what was foretold", y.again().minute(1), n + 1);
            y.minute(1);
            check.due("from the next minute on", y.ahead(0, 4 - n), foretold);
        }
        check.due("at last", y.member(0, 0), 0b000111111100);
    }

    private static void goneByForty() {
        check.says("GONE: by how many MINUTES (0 .. 40) a MEMBER does not KNOW a FACT; none");
        CountedClub muff = CountedClub.of(ALL_KNOWN + "member a;muff;on 0 0");
        CountedClub common = CountedClub.of(ALL_KNOWN + "common;on 0 0");
        for (int f = 0; f < 12; f++) {
            int fact = f;
            check.unchanged(muff, "gone(0, " + f + ") by a muff", f + 1, () -> muff.gone(0, fact));
            check.unchanged(common, "gone(0, " + f + ") by a common", f < 9 ? NONE : 12 - f, () -> common.gone(0, fact));
        }
        check.unchanged(muff, "nobody is ON him", NONE, () -> muff.gone(1, 0));
        check.unchanged(muff, "he does not KNOW it now", 0, () -> muff.gone(1, 11));
        muff.minute(1);
        check.unchanged(muff, "he does not KNOW it any more", 0, () -> muff.gone(0, 0));
        check.unchanged(muff, "the next", 1, () -> muff.gone(0, 1));
        CountedClub chain = CountedClub.of(Clubs.CHAIN + ";member l;muff;on 0 0");
        check.unchanged(chain, "it leans on what is taken", 1, () -> chain.gone(0, 11));
        check.unchanged(chain, "gone(0, 12)", LeechClub.UNKNOWN, () -> chain.gone(0, 12));
        check.unchanged(chain, "gone(0, -1)", LeechClub.UNKNOWN, () -> chain.gone(0, -1));
        check.unchanged(chain, "gone(1, 0)", LeechClub.UNKNOWN, () -> chain.gone(1, 0));
        check.unchanged(chain, "gone(-1, 0)", LeechClub.UNKNOWN, () -> chain.gone(-1, 0));
    }

    private static void foretoldAtTheLastMinute() {
        check.says("FORETOLD (nothing changes), nothing but MINUTES being done from now");
        CountedClub x = CountedClub.of("fact;fact;fact;member abc;muff");
        for (int n = 12; n <= 996; n += 12) {
            x.minute(12);
        }
        x.minute(3);
        x.put(0, 0);
        check.unchanged(x, "ahead(0, 2)", 4, () -> x.ahead(0, 2));
        check.unchanged(x, "ahead(0, 40)", 0, () -> x.ahead(0, 40));
        check.unchanged(x, "gone(0, 2)", 3, () -> x.gone(0, 2));
        check.unchanged(x, "soonest", 1, () -> x.soonest(0, 7, 0, 0));
        check.unchanged(x, "order", 3, () -> x.order(0, 7, 0));
        check.unchanged(x, "most(1, 2, NONE)", 1, () -> x.most(1, 2, NONE));
        check.unchanged(x, "kinds", 31, x::kinds);
        check.unchanged(x, "ask", 0, () -> x.ask(0, 1));
    }

    private static void boy() {
        check.says("BOY: what one who KNOWS what THE BASIN has could do: all FACTS (bits) of it of which it has ALL");
        CountedClub none = CountedClub.of(ALL_KNOWN + "muff");
        check.unchanged(none, "of an empty basin", 0, none::boy);
        none.put(0, 0);
        none.minute(12);
        none.put(0, NONE);
        check.unchanged(none, "not let go yet", 0, none::boy);
        none.salt(0);
        check.unchanged(none, "of a full basin", 4095, none::boy);
        CountedClub chain = CountedClub.of(Clubs.CHAIN + ";member l;common;on 0 0");
        chain.minute(3);
        chain.salt(0);
        check.unchanged(chain, "the last three lean on others", 0, chain::boy);
        CountedClub lean = CountedClub.of("fact;fact a;fact;fact ac;member bd;common;bishop;on 0 0");
        lean.minute(3);
        lean.salt(0);
        check.due("THE BASIN", lean.count(4), 14);
        check.unchanged(lean, "without 0", 4, lean::boy);
        lean.put(1, 0);
        lean.minute(1);
        lean.put(1, NONE);
        lean.salt(1);
        check.unchanged(lean, "with 0", 15, lean::boy);
    }

    private static void soonest(CountedClub x, int lose, int keep, int minutes, int kind) {
        String call = "soonest(0, " + lose + ", " + keep + ", ";
        check.unchanged(x, call + "0)", minutes, () -> x.soonest(0, lose, keep, 0));
        check.unchanged(x, call + "1)", kind, () -> x.soonest(0, lose, keep, 1));
    }

    private static void soonestOfAll() {
        check.says("SOONEST for a MEMBER, a set to lose, a set to keep (bits of FACTS)",
                "in how many MINUTES (0 .. 20), as few as can be");
        CountedClub x = CountedClub.of(ALL_KNOWN + "greedy;on 0 0");
        soonest(x, 0, 0, 0, 0);
        soonest(x, 0, 4095, 0, 0);
        soonest(x, 2048, 2047, 1, 0);
        soonest(x, 3072, 1023, 1, 1);
        soonest(x, 3584, 511, 1, 2);
        soonest(x, 3840, 255, 2, 1);
        soonest(x, 4032, 63, 2, 2);
        soonest(x, 4088, 7, 3, 2);
        soonest(x, 4092, 3, NONE, NONE);
        soonest(x, 4092, 0, 12, 4);
        soonest(x, 4095, 0, 12, 4);
        soonest(x, 4095, 1, NONE, NONE);
        soonest(x, 2047, 2048, 11, 4);
        soonest(x, 2048, 1, 1, 0);
        soonest(x, 1, 2048, 1, 3);
        soonest(x, 1, 1, NONE, NONE);
    }

    private static void soonestFirst() {
        check.says("(also if it is off by then); of several KINDS the first; none");
        CountedClub x = CountedClub.of(ALL_KNOWN + "greedy");
        soonest(x, 1, 4094, 1, 3);
        soonest(x, 3, 4092, 2, 3);
        soonest(x, 7, 4088, 3, 4);
        soonest(x, 3840, 63, 2, 1);
        CountedClub one = CountedClub.of(Clubs.TWELVE_FACTS + ";member a;bishop;on 0 0");
        soonest(one, 1, 0, 1, 0);
        soonest(one, 4094, 1, 0, 0);
        soonest(one, 0, 2, NONE, NONE);
        soonest(one, 4095, 0, 1, 0);
        CountedClub two = CountedClub.of(Clubs.TWELVE_FACTS + ";member ab");
        soonest(two, 3, 0, 1, 1);
        soonest(two, 1, 2, 1, 3);
        soonest(two, 2, 1, 1, 0);
        CountedClub lean = CountedClub.of("fact;fact a;fact;member bc");
        soonest(lean, 3, 4, 1, 3);
        soonest(lean, 1, 6, NONE, NONE);
        CountedClub full = CountedClub.of(ALL_KNOWN + "bishop;muff;on 0 0");
        full.minute(2);
        soonest(full, 12, 4080, 2, 3);
        soonest(full, 4, 3, NONE, NONE);
    }

    private static void soonestBits() {
        check.says("UNKNOWN (no such FACT, bits of such, MEMBER");
        CountedClub none = CountedClub.of("member");
        soonest(none, 0, 0, 0, 0);
        soonest(none, 1, 0, LeechClub.UNKNOWN, LeechClub.UNKNOWN);
        soonest(none, 0, 1, LeechClub.UNKNOWN, LeechClub.UNKNOWN);
        CountedClub four = CountedClub.of("fact;fact;fact;fact;member");
        soonest(four, 15, 0, 0, 0);
        soonest(four, 16, 0, LeechClub.UNKNOWN, LeechClub.UNKNOWN);
        soonest(four, 0, 15, NONE, NONE);
        soonest(four, 0, 16, LeechClub.UNKNOWN, LeechClub.UNKNOWN);
        soonest(four, -1, 0, LeechClub.UNKNOWN, LeechClub.UNKNOWN);
        soonest(four, 0, -1, LeechClub.UNKNOWN, LeechClub.UNKNOWN);
        CountedClub full = CountedClub.of(ALL_KNOWN + "muff");
        soonest(full, 4096, 0, LeechClub.UNKNOWN, LeechClub.UNKNOWN);
        soonest(full, 0, 4096, LeechClub.UNKNOWN, LeechClub.UNKNOWN);
        check.unchanged(full, "what 2", LeechClub.OUTSIDE, () -> full.soonest(0, 0, 0, 2));
        check.unchanged(full, "what -1", LeechClub.OUTSIDE, () -> full.soonest(0, 0, 0, -1));
        check.unchanged(full, "member 1", LeechClub.UNKNOWN, () -> full.soonest(1, 0, 0, 0));
        check.unchanged(full, "member -1", LeechClub.UNKNOWN, () -> full.soonest(-1, 0, 0, 0));
    }

    private static void order(CountedClub x, int lose, int keep, int due) {
        check.unchanged(x, "order(0, " + lose + ", " + keep + ")", due, () -> x.order(0, lose, keep));
    }

    private static void orderOfNoneToThree() {
        check.says("ORDER for the same: a row of KINDS, 0 to 3 of them, of each a new LEECH ON him for one MINUTE, nobody else, "
                + "one behind the other",
                "(0: none is needed); none");
        CountedClub x = CountedClub.of(ALL_KNOWN + "muff;on 0 0");
        order(x, 0, 0, 0);
        order(x, 0, 4095, 0);
        order(x, 2048, 2047, 1);
        order(x, 3072, 1023, 2);
        order(x, 3584, 511, 3);
        order(x, 1, 4094, 4);
        order(x, 4032, 63, 33);
        order(x, 4088, 7, 333);
        order(x, 4092, 0, NONE);
        order(x, 4095, 0, NONE);
        order(x, 7, 4088, 444);
        order(x, 15, 0, NONE);
        order(x, 1, 1, NONE);
        CountedClub none = CountedClub.of("member");
        order(none, 0, 0, 0);
        CountedClub nothing = CountedClub.of("fact;member");
        order(nothing, 1, 0, 0);
        order(nothing, 0, 1, NONE);
    }

    private static void orderFirst() {
        check.says("the fewest; of as few the first (KIND by KIND the lesser first): told as its figures, "
                + "each KIND 1 more, the first one first");
        CountedClub x = CountedClub.of(ALL_KNOWN + "muff");
        order(x, 3840, 255, 13);
        order(x, 3968, 127, 23);
        order(x, 2049, 2046, 14);
        order(x, 3073, 1022, 24);
        order(x, 3585, 510, 34);
        order(x, 3, 4092, 44);
        order(x, 2051, 2044, 144);
        order(x, 3841, 254, 134);
        order(x, 4064, 31, 133);
        order(x, 4080, 15, 233);
        order(x, 4033, 62, 334);
        CountedClub lean = CountedClub.of("fact;fact;fact;fact a;fact a;fact a;fact a;fact a;member bcdefgh");
        order(lean, 253, 2, 41);
        order(lean, 255, 0, 42);
        order(lean, 249, 6, 4);
        CountedClub one = CountedClub.of("fact;member a");
        order(one, 1, 0, 1);
    }

    private static void orderBits() {
        check.says("UNKNOWN (no such FACT, bits of such, MEMBER");
        CountedClub four = CountedClub.of("fact;fact;fact;fact;member");
        order(four, 15, 0, 0);
        order(four, 16, 0, LeechClub.UNKNOWN);
        order(four, 0, 15, NONE);
        order(four, 0, 16, LeechClub.UNKNOWN);
        order(four, -1, 0, LeechClub.UNKNOWN);
        order(four, 0, -1, LeechClub.UNKNOWN);
        CountedClub full = CountedClub.of(ALL_KNOWN + "muff");
        order(full, 4096, 0, LeechClub.UNKNOWN);
        order(full, 0, 4096, LeechClub.UNKNOWN);
        check.unchanged(full, "member 1", LeechClub.UNKNOWN, () -> full.order(1, 0, 0));
        check.unchanged(full, "member -1", LeechClub.UNKNOWN, () -> full.order(-1, 0, 0));
    }

    /** How many, and each leech's member. */
    private static void most(CountedClub x, int c, int n, int... due) {
        check.unchanged(x, "most(" + c + ", " + n + ", NONE)", due[0], () -> x.most(c, n, NONE));
        for (int l = 0; l + 1 < due.length; l++) {
            int leech = l;
            check.unchanged(x, "most(" + c + ", " + n + ", " + l + ")", due[l + 1], () -> x.most(c, n, leech));
        }
    }

    private static void mostByC() {
        check.says("MOST for c (0 .. 12)", "no MEMBER KNOWS more than c FACTS");
        CountedClub x = CountedClub.of(ALL_KNOWN + "member;muff");
        most(x, 12, 10, 12, NONE);
        most(x, 11, 1, 11, 0);
        most(x, 11, 0, NONE, NONE);
        most(x, 3, 9, 3, 0);
        most(x, 2, 9, NONE, NONE);
        most(x, 0, 10, NONE, NONE);
        CountedClub nothing = CountedClub.of("fact;member;member;common");
        most(nothing, 0, 0, 0, NONE);
        CountedClub one = CountedClub.of("fact;member a;common");
        most(one, 0, 1, 0, 0);
        most(one, 0, 0, NONE, NONE);
        most(one, 1, 1, 1, NONE);
    }

    private static void mostByN() {
        check.says("n MINUTES (0 .. 10)");
        CountedClub x = CountedClub.of(ALL_KNOWN + "member;muff;common");
        most(x, 2, 10, 2, 0, NONE);
        most(x, 1, 10, 0, 0, 0);
        most(x, 12, 0, 12, NONE, NONE);
        CountedClub on = CountedClub.of(ALL_KNOWN + "muff;on 0 0");
        for (int n = 0; n <= 10; n++) {
            most(on, 12, n, 12 - n, NONE);
            most(on, 11 - n, n, NONE, NONE);
        }
    }

    private static void mostOfTheFull() {
        check.says("each LEECH that is off now being put ON a MEMBER, or left off",
                "of several the first (LEECH by LEECH off first, then the lesser MEMBER)");
        CountedClub x = Clubs.full();
        most(x, 12, 1, 12, NONE, NONE, NONE, NONE, NONE);
        most(x, 11, 1, 12, NONE, NONE, NONE, 2, 3);
        most(x, 10, 1, NONE, NONE, NONE, NONE, NONE, NONE);
        most(x, 10, 2, 12, NONE, NONE, NONE, 2, 3);
        x.put(3, 2);
        most(x, 11, 1, 12, NONE, NONE, NONE, NONE, 3);
        CountedClub sated = CountedClub.of("fact;fact;fact;fact;member abc;member abcd;bishop;muff;on 0 0");
        sated.minute(2);
        most(sated, 3, 1, 3, NONE, 1);
        most(sated, 4, 1, 4, NONE, NONE);
        CountedClub same = CountedClub.of("fact;fact;member ab;member ab;member ab;member ab;muff;muff;muff;muff;muff");
        most(same, 1, 1, 1, NONE, 0, 1, 2, 3);
        most(same, 0, 1, NONE, NONE, NONE, NONE, NONE, NONE);
        most(same, 0, 2, 0, NONE, 0, 1, 2, 3);
        most(same, 2, 2, 2, NONE, NONE, NONE, NONE, NONE);
    }

    private static void mostOfNobody() {
        check.says("and most FACTS are KNOWN by some MEMBER");
        CountedClub x = CountedClub.of("fact;common;muff");
        most(x, 0, 10, 0, NONE, NONE);
        most(x, 12, 0, 0, NONE, NONE);
        CountedClub none = new CountedClub();
        most(none, 0, 0, 0);
        CountedClub apart = CountedClub.of("fact;fact;fact;fact;member abc;member bcd;common;bishop");
        most(apart, 2, 1, 4, 0, 1);
        CountedClub without = CountedClub.of("fact;fact;member ab;member b");
        most(without, 2, 5, 2);
        most(without, 1, 5, NONE);
    }

    private static void mostRefused() {
        check.says("UNKNOWN; OUTSIDE");
        CountedClub x = Clubs.full();
        check.unchanged(x, "c 13", LeechClub.OUTSIDE, () -> x.most(13, 0, NONE));
        check.unchanged(x, "c -1", LeechClub.OUTSIDE, () -> x.most(-1, 0, NONE));
        check.unchanged(x, "n 11", LeechClub.OUTSIDE, () -> x.most(0, 11, NONE));
        check.unchanged(x, "n -1", LeechClub.OUTSIDE, () -> x.most(0, -1, NONE));
        check.unchanged(x, "leech 5", LeechClub.UNKNOWN, () -> x.most(0, 0, 5));
        check.unchanged(x, "leech -2", LeechClub.UNKNOWN, () -> x.most(0, 0, -2));
        check.unchanged(x, "leech 4", NONE, () -> x.most(12, 0, 4));
    }

    private static void soundByFifths() {
        check.says("SOUND: each FACT is so by q of five (0 .. 5), by itself: the odds that ALL of a FACT are so",
                "told in lowest terms");
        int[] above = {0, 1, 4096, 531441, 16777216, 1};
        int[] below = {1, 244140625, 244140625, 244140625, 244140625, 1};
        CountedClub chain = CountedClub.of(Clubs.CHAIN);
        for (int q = 0; q <= 5; q++) {
            int fifths = q;
            check.unchanged(chain, "above of twelve, " + q, above[q], () -> chain.sound(11, fifths, 0));
            check.unchanged(chain, "below of twelve, " + q, below[q], () -> chain.sound(11, fifths, 1));
            check.unchanged(chain, "above of one, " + q, q == 5 ? 1 : q, () -> chain.sound(0, fifths, 0));
            check.unchanged(chain, "below of one, " + q, q == 0 || q == 5 ? 1 : 5, () -> chain.sound(0, fifths, 1));
        }
        CountedClub wide = CountedClub.of("fact;fact;fact;fact a;fact a;fact abde");
        check.unchanged(wide, "above of five, each once", 243, () -> wide.sound(5, 3, 0));
        check.unchanged(wide, "below of five, each once", 3125, () -> wide.sound(5, 3, 1));
        check.unchanged(chain, "q 6", LeechClub.OUTSIDE, () -> chain.sound(11, 6, 0));
        check.unchanged(chain, "q -1", LeechClub.OUTSIDE, () -> chain.sound(11, -1, 0));
        check.unchanged(chain, "part 2", LeechClub.OUTSIDE, () -> chain.sound(11, 0, 2));
        check.unchanged(chain, "part -1", LeechClub.OUTSIDE, () -> chain.sound(11, 0, -1));
        check.unchanged(chain, "fact 12", LeechClub.UNKNOWN, () -> chain.sound(12, 0, 0));
        check.unchanged(chain, "fact -1", LeechClub.UNKNOWN, () -> chain.sound(-1, 0, 0));
    }

    private static void sixSeen() {
        check.says("SEEN, 6 at most", "SEEN is nothing: how many there were");
        CountedClub x = Clubs.full();
        check.unchanged(x, "forget of nothing", 0, x::forget);
        for (int i = 1; i <= 6; i++) {
            check.due("seen", x.seen(i % 4, i, 11, 0), i);
            check.due("count(7)", x.count(7), i);
        }
        check.unchanged(x, "a seventh", LeechClub.FULL, () -> x.seen(0, 1, 0, 1));
        check.unchanged(x, "a seventh, as one before", LeechClub.FULL, () -> x.seen(1, 1, 11, 0));
        check.unchanged(x, "kinds", COMMON + STRIPED + GREEDY, x::kinds);
        check.due("forget", x.forget(), 6);
        check.due("count(7)", x.count(7), 0);
        check.unchanged(x, "kinds", 31, x::kinds);
        check.unchanged(x, "forget of nothing", 0, x::forget);
        check.due("seen", x.seen(3, 6, 0, 0), 1);
        check.unchanged(x, "kinds", BISHOP + MUFF, x::kinds);
    }

    private static void seenBounds() {
        check.says("for n MINUTES (1 .. 6): then he KNEW a FACT, or not", "SEEN (knew 1, 0): how many. UNKNOWN; OUTSIDE; FULL");
        CountedClub x = Clubs.full();
        check.unchanged(x, "n 0", LeechClub.OUTSIDE, () -> x.seen(0, 0, 0, 0));
        check.unchanged(x, "n 7", LeechClub.OUTSIDE, () -> x.seen(0, 7, 0, 0));
        check.unchanged(x, "knew 2", LeechClub.OUTSIDE, () -> x.seen(0, 1, 0, 2));
        check.unchanged(x, "knew -1", LeechClub.OUTSIDE, () -> x.seen(0, 1, 0, -1));
        check.unchanged(x, "fact 12", LeechClub.UNKNOWN, () -> x.seen(0, 1, 12, 0));
        check.unchanged(x, "fact -1", LeechClub.UNKNOWN, () -> x.seen(0, 1, -1, 0));
        check.unchanged(x, "member 4", LeechClub.UNKNOWN, () -> x.seen(4, 1, 0, 0));
        check.unchanged(x, "member -1", LeechClub.UNKNOWN, () -> x.seen(-1, 1, 0, 0));
        check.due("seen(3, 6, 11, 1)", x.seen(3, 6, 11, 1), 1);
        check.unchanged(x, "kinds", BISHOP + MUFF, x::kinds);
        check.due("seen(3, 1, 0, 0)", x.seen(3, 1, 0, 0), 2);
        check.unchanged(x, "kinds", BISHOP + MUFF, x::kinds);
        check.due("seen(0, 6, 5, 0)", x.seen(0, 6, 5, 0), 3);
        check.unchanged(x, "kinds", MUFF, x::kinds);
    }

    /** One who knows all twelve: what each kind has left him behind 1 to 6 minutes. */
    private static void kindsByAll() {
        check.says("KINDS (0 .. 4, by bits) by which all that is SEEN would be so");
        int[][] leaves = {
            {0b011111111111, 0b001111111111, 0b000111111111, 0b000111111111, 0b000111111111, 0b000111111111},
            {0b001111111111, 0b000011111111, 0b000000111111, 0b000000111111, 0b000000111111, 0b000000111111},
            {0b000111111111, 0b000000111111, 0b000000000111, 0b000000000111, 0b000000000111, 0b000000000111},
            {0b111111111110, 0b111111111100, 0b111111111100, 0b111111111100, 0b111111111100, 0b111111111100},
            {0b111111111110, 0b111111111100, 0b111111111000, 0b111111110000, 0b111111100000, 0b111111000000}};
        for (int n = 1; n <= 6; n++) {
            CountedClub x = CountedClub.of(ALL_KNOWN + "muff;on 0 0");
            for (int f = 0; f < 12; f++) {
                int knew = 0;
                for (int kind = 0; kind < 5; kind++) {
                    knew |= (leaves[kind][n - 1] >> f & 1) << kind;
                }
                x.seen(0, n, f, 1);
                check.due("he KNEW " + f + " behind " + n, x.kinds(), knew);
                x.forget();
                x.seen(0, n, f, 0);
                check.due("he did not KNOW " + f + " behind " + n, x.kinds(), 31 - knew);
                x.forget();
            }
        }
    }

    private static void kindsOfMany() {
        check.says("KINDS (0 .. 4, by bits) by which all that is SEEN would be so");
        CountedClub x = CountedClub.of(ALL_KNOWN + "member;member a");
        check.unchanged(x, "kinds", 31, x::kinds);
        x.seen(0, 1, 11, 0);
        check.unchanged(x, "kinds", COMMON + STRIPED + GREEDY, x::kinds);
        x.seen(0, 1, 10, 0);
        check.unchanged(x, "kinds", STRIPED + GREEDY, x::kinds);
        x.seen(0, 1, 9, 1);
        check.unchanged(x, "kinds", STRIPED, x::kinds);
        x.seen(1, 1, 0, 0);
        check.unchanged(x, "of one who KNOWS nothing", STRIPED, x::kinds);
        x.seen(2, 1, 0, 0);
        check.unchanged(x, "of one who KNOWS a alone", STRIPED, x::kinds);
        x.seen(2, 6, 0, 1);
        check.unchanged(x, "none", 0, x::kinds);
        CountedClub y = CountedClub.of("fact;member");
        y.seen(0, 1, 0, 1);
        check.unchanged(y, "what can not be", 0, y::kinds);
    }

    private static void ask(CountedClub x, int... due) {
        for (int n = 1; n <= due.length; n++) {
            int minutes = n;
            check.unchanged(x, "ask(0, " + n + ")", due[n - 1], () -> x.ask(0, minutes));
        }
    }

    private static void askParts() {
        check.says("the FACT by which these KINDS are parted best",
                "the greatest part that is alike is least; of like ones the least");
        CountedClub x = CountedClub.of(ALL_KNOWN + "muff;on 0 0");
        ask(x, 0, 0, 0, 0, 0, 0);
        x.seen(0, 1, 0, 1);
        check.due("kinds", x.kinds(), COMMON + STRIPED + GREEDY);
        ask(x, 9, 6, 3, 3, 3, 3);
        x.forget();
        x.seen(0, 1, 10, 0);
        check.due("kinds", x.kinds(), STRIPED + GREEDY);
        ask(x, 9, 6, 3, 3, 3, 3);
        x.forget();
        x.seen(0, 1, 0, 0);
        check.due("kinds", x.kinds(), BISHOP + MUFF);
        ask(x, NONE, NONE, 2, 2, 2, 2);
        x.forget();
        x.seen(0, 3, 2, 1);
        check.due("kinds", x.kinds(), COMMON + STRIPED + GREEDY + BISHOP);
        ask(x, 10, 8, 6, 6, 6, 6);
        CountedClub two = CountedClub.of("fact;fact;member ab");
        ask(two, 1, NONE, NONE, NONE, NONE, NONE);
        CountedClub later = CountedClub.of("fact;fact;fact;fact;member bcd");
        ask(later, 1, 3, 3, 3, 3, 3);
    }

    private static void askNone() {
        check.says("none (none parts them)");
        CountedClub x = CountedClub.of(ALL_KNOWN + "member;member a");
        check.unchanged(x, "of one who KNOWS nothing", NONE, () -> x.ask(1, 1));
        check.unchanged(x, "of one who KNOWS a alone", NONE, () -> x.ask(2, 1));
        x.seen(0, 1, 10, 0);
        x.seen(0, 1, 9, 1);
        check.due("one KIND", x.kinds(), STRIPED);
        check.unchanged(x, "of one KIND", NONE, () -> x.ask(0, 1));
        x.seen(0, 1, 9, 0);
        check.due("no KIND", x.kinds(), 0);
        check.unchanged(x, "of no KIND", NONE, () -> x.ask(0, 1));
        CountedClub none = CountedClub.of("member");
        check.unchanged(none, "of no FACT", NONE, () -> none.ask(0, 6));
    }

    private static void askRefused() {
        check.says("UNKNOWN; OUTSIDE (n 1 .. 6)");
        CountedClub x = Clubs.full();
        check.unchanged(x, "n 0", LeechClub.OUTSIDE, () -> x.ask(3, 0));
        check.unchanged(x, "n 7", LeechClub.OUTSIDE, () -> x.ask(3, 7));
        check.unchanged(x, "n -1", LeechClub.OUTSIDE, () -> x.ask(3, -1));
        check.unchanged(x, "member 4", LeechClub.UNKNOWN, () -> x.ask(4, 1));
        check.unchanged(x, "member -1", LeechClub.UNKNOWN, () -> x.ask(-1, 1));
        check.unchanged(x, "n 6", 0, () -> x.ask(3, 6));
        check.unchanged(x, "n 1", 0, () -> x.ask(3, 1));
    }
}
