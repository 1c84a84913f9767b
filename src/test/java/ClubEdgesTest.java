/** Each sentence of the terms, and of promises 6 to 16 and 34, that names a boundary of what is told and what is done. */
public final class ClubEdgesTest {
    private static final Check check = new Check("ClubEdgesTest");
    private static final int NONE = LeechClub.NONE;
    private static final String ALL_KNOWN = Clubs.TWELVE_FACTS + ";member abcdefghijkl;";
    private static final String[] WORDS = {"common", "striped", "greedy", "bishop", "muff"};
    private static final int[] TAKES = {1, 2, 3, 1, 1};
    private static final int[] HAS_ROOM = {3, 6, 9, 2, 99};

    public static void main(String[] args) {
        whoKnowsAndHas();
        clear();
        clearOfNoFacts();
        leechOff();
        lostThroughAndThrough();
        asLongAsHeKnowsOne();
        newestOrOldest();
        roomIsReached();
        roomIsReachedInTheMidst();
        fullOnePutOn();
        emptiedOneTakesAgain();
        hasItOnce();
        risingLeeches();
        nextMinute();
        oneToTwelveMinutes();
        lastMinute();
        kindsOverOneAnother();
        put();
        salt();
        read();
        lastEightUndone();
        undoneTogether();
        undoLeavesTheRest();
        kept();
        backLeavesTheRest();
        keptBeforeTheClub();
        counts();
        check.end();
    }

    private static void whoKnowsAndHas() {
        check.says("MEMBERS who KNOW it (2, bits), LEECHES that HAVE it (3, bits)");
        CountedClub x = Clubs.full();
        check.due("all KNOW the first", x.fact(0, 2), 15);
        check.due("all KNOW the last", x.fact(11, 2), 15);
        check.due("none HAS it", x.fact(11, 3), 0);
        x.put(2, 2);
        x.put(3, 3);
        x.put(4, 3);
        x.minute(1);
        check.due("who KNOWS 11", x.fact(11, 2), 8);
        check.due("who HAS 11", x.fact(11, 3), 7);
        check.due("who KNOWS 0", x.fact(0, 2), 7);
        check.due("who HAS 0", x.fact(0, 3), 8);
        check.due("who KNOWS 1", x.fact(1, 2), 7);
        check.due("who HAS 1", x.fact(1, 3), 16);
        check.unchanged(x, "fact(12, 0)", LeechClub.UNKNOWN, () -> x.fact(12, 0));
        check.unchanged(x, "fact(-1, 0)", LeechClub.UNKNOWN, () -> x.fact(-1, 0));
        check.unchanged(x, "fact(11, 4)", LeechClub.OUTSIDE, () -> x.fact(11, 4));
        check.unchanged(x, "fact(11, -1)", LeechClub.OUTSIDE, () -> x.fact(11, -1));
        check.unchanged(x, "member(4, 0)", LeechClub.UNKNOWN, () -> x.member(4, 0));
        check.unchanged(x, "member(-1, 0)", LeechClub.UNKNOWN, () -> x.member(-1, 0));
        check.unchanged(x, "member(3, 4)", LeechClub.OUTSIDE, () -> x.member(3, 4));
        check.unchanged(x, "member(3, -1)", LeechClub.OUTSIDE, () -> x.member(3, -1));
        check.unchanged(x, "member(3, 1)", 24, () -> x.member(3, 1));
    }

    private static void clear() {
        check.says("CLEAR is how many FACTS a MEMBER does not KNOW of all that there are", "in lowest terms");
        int[] above = {1, 11, 5, 3, 2, 7, 1, 5, 1, 1, 1, 1, 0};
        int[] below = {1, 12, 6, 4, 3, 12, 2, 12, 3, 4, 6, 12, 1};
        CountedClub x = CountedClub.of(Clubs.TWELVE_FACTS + ";member");
        for (int known = 0; known <= 12; known++) {
            check.due("above, of " + known + " of 12", x.member(0, 2), above[known]);
            check.due("below, of " + known + " of 12", x.member(0, 3), below[known]);
            if (known < 12) {
                x.read(0, known);
            }
        }
        CountedClub one = CountedClub.of("fact;member;member a");
        check.due("above, nothing of one", one.member(0, 2), 1);
        check.due("below, nothing of one", one.member(0, 3), 1);
        check.due("above, all of one", one.member(1, 2), 0);
        check.due("below, all of one", one.member(1, 3), 1);
    }

    private static void clearOfNoFacts() {
        check.says("(none: 1 by 1)");
        CountedClub x = CountedClub.of("member");
        check.unchanged(x, "above", 1, () -> x.member(0, 2));
        check.unchanged(x, "below", 1, () -> x.member(0, 3));
        check.unchanged(x, "knows", 0, () -> x.member(0, 0));
        check.unchanged(x, "leeches", 0, () -> x.member(0, 1));
    }

    private static void leechOff() {
        check.says("the MEMBER ON whom it is (1; NONE)");
        CountedClub x = Clubs.full();
        int[] on = {0, 1, NONE, NONE, NONE};
        for (int l = 0; l < 5; l++) {
            check.due("leech(" + l + ", 1)", x.leech(l, 1), on[l]);
            check.due("leech(" + l + ", 2)", x.leech(l, 2), 0);
        }
        x.put(4, 3);
        check.due("ON the last", x.leech(4, 1), 3);
        check.unchanged(x, "leech(5, 0)", LeechClub.UNKNOWN, () -> x.leech(5, 0));
        check.unchanged(x, "leech(-1, 0)", LeechClub.UNKNOWN, () -> x.leech(-1, 0));
        check.unchanged(x, "leech(4, 3)", LeechClub.OUTSIDE, () -> x.leech(4, 3));
        check.unchanged(x, "leech(4, -1)", LeechClub.OUTSIDE, () -> x.leech(4, -1));
    }

    private static void lostThroughAndThrough() {
        check.says("A FACT that is LOST by a MEMBER he KNOWS no more, nor any that leans on it, through and through");
        String facts = "fact;fact;fact a;fact c;fact bd;fact;member ef;";
        CountedClub x = CountedClub.of(facts + "bishop;on 0 0");
        x.minute(1);
        check.due("0 is lost, 2 on it, 3 on that, 4 on that", x.member(0, 0), 0b100010);
        check.due("it HAS the one", x.leech(0, 2), 1);
        CountedClub y = CountedClub.of(facts + "common;on 0 0");
        y.minute(2);
        check.due("5, then 4: none leans on them", y.member(0, 0), 0b001111);
        check.due("it HAS both", y.leech(0, 2), 0b110000);
        CountedClub z = CountedClub.of(Clubs.CHAIN + ";member l;muff;on 0 0");
        z.minute(1);
        check.due("all lean on the first", z.member(0, 0), 0);
        z.minute(12);
        check.due("nothing more is there to take", z.leech(0, 2), 1);
    }

    /** Members who know none, one .. of the facts that a leech would take. */
    private static void asLongAsHeKnowsOne() {
        check.says("each take so many FACTS as by KIND it TAKES, one behind the other, as long as he KNOWS one");
        for (int kind = 0; kind < 5; kind++) {
            for (int known = 0; known <= 4; known++) {
                String set = "abcd".substring(0, known);
                CountedClub x = CountedClub.of("fact;fact;fact;fact;member " + set + ";" + WORDS[kind] + ";on 0 0");
                x.minute(1);
                int taken = Math.min(known, TAKES[kind]);
                check.due(WORDS[kind] + " on one of " + known, Integer.bitCount(x.leech(0, 2)), taken);
                check.due(WORDS[kind] + " leaves of " + known, Integer.bitCount(x.member(0, 0)), known - taken);
                check.due(WORDS[kind] + " is ON", x.leech(0, 1), 0);
            }
        }
        CountedClub x = CountedClub.of("fact;fact;fact ab;fact c;member d;greedy;on 0 0");
        x.minute(1);
        check.due("a greedy one takes d, c, b", x.leech(0, 2), 14);
        CountedClub y = CountedClub.of("fact;fact a;fact a;fact a;member bcd;greedy;bishop;on 0 0;on 1 0");
        y.minute(1);
        check.due("a greedy one takes the three", y.leech(0, 2), 14);
        check.due("the bishop the one that is left", y.leech(1, 2), 1);
    }

    private static void newestOrOldest() {
        check.says("the newest that he KNOWS, or, if by KIND it goes DEEP, the oldest");
        int[] taken = {0b100000000000, 0b110000000000, 0b111000000000, 1, 1};
        for (int kind = 0; kind < 5; kind++) {
            CountedClub x = CountedClub.of(ALL_KNOWN + WORDS[kind] + ";on 0 0");
            x.minute(1);
            check.due(WORDS[kind] + " HAS", x.leech(0, 2), taken[kind]);
            check.due(WORDS[kind] + " leaves", x.member(0, 0), 4095 & ~taken[kind]);
            CountedClub y = CountedClub.of("fact;fact;fact;fact;member bc;" + WORDS[kind] + ";on 0 0");
            y.minute(1);
            check.due(WORDS[kind] + " of b, c HAS", y.leech(0, 2), kind == 0 ? 4 : kind < 3 ? 6 : 2);
        }
    }

    private static void roomIsReached() {
        check.says("As soon as it HAS as many as it has ROOM for by KIND, or more, it is off, and takes no more");
        for (int kind = 0; kind < 5; kind++) {
            CountedClub x = CountedClub.of(ALL_KNOWN + WORDS[kind] + ";on 0 0");
            int has = 0;
            for (int n = 1; n <= 14; n++) {
                x.minute(1);
                has = Math.min(Math.min(has + TAKES[kind], HAS_ROOM[kind]), 12);
                String when = WORDS[kind] + " behind " + n;
                check.due(when + " HAS", Integer.bitCount(x.leech(0, 2)), has);
                check.due(when + " leaves", Integer.bitCount(x.member(0, 0)), 12 - has);
                check.due(when + " is ON", x.leech(0, 1), has < HAS_ROOM[kind] ? 0 : NONE);
            }
        }
    }

    /** Leeches that take several at once, with room for fewer of them. */
    private static void roomIsReachedInTheMidst() {
        check.says("As soon as it HAS as many as it has ROOM for by KIND, or more, it is off, and takes no more");
        int[] leaves = {0, 0b011100, 0b001100, 0b000100};
        for (int left = 1; left <= 3; left++) {
            CountedClub x = CountedClub.of(Clubs.TWELVE_FACTS + ";member ghijkl;greedy;on 0 0");
            x.minute(2);
            for (int f = 0; f < 3 - left; f++) {
                x.read(0, f);
            }
            x.minute(1);
            check.due("greedy HAS", Integer.bitCount(x.leech(0, 2)), 9 - left);
            check.due("greedy is ON", x.leech(0, 1), 0);
            for (int f = 2; f <= 5; f++) {
                x.read(0, f);
            }
            x.minute(1);
            check.due("greedy with room for " + left + " leaves", x.member(0, 0), leaves[left]);
            check.due("greedy HAS nine", Integer.bitCount(x.leech(0, 2)), 9);
            check.due("greedy is off", x.leech(0, 1), NONE);
        }
        CountedClub y = CountedClub.of(Clubs.TWELVE_FACTS + ";member hijkl;striped;on 0 0");
        y.minute(3);
        check.due("striped HAS five", y.leech(0, 2), 0b111110000000);
        check.due("striped is ON", y.leech(0, 1), 0);
        y.read(0, 0);
        y.read(0, 1);
        y.minute(1);
        check.due("striped takes one", y.member(0, 0), 1);
        check.due("striped is off", y.leech(0, 1), NONE);
    }

    private static void fullOnePutOn() {
        check.says("(One that HAS so many takes nothing, and is off.)");
        int[] minutes = {3, 3, 3, 2};
        for (int kind = 0; kind < 4; kind++) {
            CountedClub x = CountedClub.of(ALL_KNOWN + "member abc;" + WORDS[kind] + ";on 0 0");
            x.minute(minutes[kind]);
            int has = x.leech(0, 2);
            check.due("it is off", x.put(0, 1), NONE);
            check.due("it is ON as long as it is no MINUTE", x.leech(0, 1), 1);
            check.due("nothing is foretold to be taken", x.ahead(1, 1), 7);
            x.minute(1);
            check.due("nothing is taken", x.member(1, 0), 7);
            check.due("it HAS as much", x.leech(0, 2), has);
            check.due("it is off", x.leech(0, 1), NONE);
        }
    }

    private static void emptiedOneTakesAgain() {
        check.says("SALT: a LEECH that is off lets go what it HAS into THE BASIN: it HAS nothing");
        CountedClub x = CountedClub.of(ALL_KNOWN + "common;on 0 0");
        x.minute(12);
        check.due("salt", x.salt(0), 0b111000000000);
        check.due("it HAS nothing", x.leech(0, 2), 0);
        check.due("salt of nothing", x.salt(0), 0b111000000000);
        x.put(0, 0);
        x.minute(2);
        check.due("two more", x.leech(0, 2), 0b000110000000);
        x.put(0, NONE);
        check.due("salt", x.salt(0), 0b111110000000);
        x.read(0, 11);
        x.put(0, 0);
        x.minute(1);
        x.put(0, NONE);
        check.due("what THE BASIN has it has once", x.salt(0), 0b111110000000);
        check.due("count(4)", x.count(4), 0b111110000000);
    }

    private static void hasItOnce() {
        check.says("it HAS that, too, from then on, he has LOST it");
        CountedClub x = CountedClub.of("fact;member a;common;on 0 0");
        for (int i = 0; i < 4; i++) {
            x.minute(1);
            check.due("he KNOWS nothing", x.member(0, 0), 0);
            check.due("it HAS the one", x.leech(0, 2), 1);
            check.due("it is ON", x.leech(0, 1), 0);
            x.read(0, 0);
        }
    }

    private static void risingLeeches() {
        check.says("LEECHES that are ON a MEMBER, rising");
        CountedClub x = CountedClub.of("fact;fact;fact;fact;member abcd;bishop;common;striped;muff;greedy;"
                + "on 0 0;on 1 0;on 2 0;on 3 0;on 4 0");
        x.minute(1);
        int[] has = {1, 8, 6, 0, 0};
        for (int l = 0; l < 5; l++) {
            check.due("leech(" + l + ", 2)", x.leech(l, 2), has[l]);
        }
        CountedClub y = CountedClub.of("fact;fact;member ab;common;muff;on 0 0;on 1 0");
        y.minute(1);
        check.due("the lesser takes the newest", y.leech(0, 2), 2);
        check.due("the other what is left", y.leech(1, 2), 1);
        CountedClub z = CountedClub.of("fact;fact;member a;member b;common;common;on 0 1;on 1 0");
        z.minute(1);
        check.due("of the member ON whom it is", z.leech(0, 2), 2);
        check.due("of the member ON whom it is", z.leech(1, 2), 1);
    }

    private static void nextMinute() {
        check.says("Then it is the next MINUTE");
        CountedClub x = new CountedClub();
        check.due("nobody is there", x.minute(1), 1);
        check.due("undo", x.undo(), 0);
        check.due("count(3)", x.count(3), 0);
        CountedClub y = CountedClub.of("member;muff;on 0 0");
        check.due("nothing is known", y.minute(12), 12);
        check.due("it is ON", y.leech(0, 1), 0);
    }

    private static void oneToTwelveMinutes() {
        check.says("MINUTES (n 1 .. 12, together they are undone): which it is");
        for (int n = 1; n <= 12; n++) {
            CountedClub x = CountedClub.of(ALL_KNOWN + "muff;on 0 0");
            check.due("minute(" + n + ")", x.minute(n), n);
            check.due("he KNOWS", x.member(0, 0), 4095 >> n << n);
            check.due("one can be undone", x.count(9), 1);
            check.due("undo", x.undo(), 0);
            check.due("count(3)", x.count(3), 0);
            check.due("he KNOWS", x.member(0, 0), 4095);
        }
        CountedClub y = CountedClub.of(ALL_KNOWN + "muff;on 0 0");
        check.unchanged(y, "minute(0)", LeechClub.OUTSIDE, () -> y.minute(0));
        check.unchanged(y, "minute(13)", LeechClub.OUTSIDE, () -> y.minute(13));
        check.unchanged(y, "minute(-1)", LeechClub.OUTSIDE, () -> y.minute(-1));
    }

    private static void lastMinute() {
        check.says("FULL: it would be above 999");
        CountedClub x = CountedClub.of("fact;fact;member ab;muff");
        for (int n = 12; n <= 984; n += 12) {
            x.minute(12);
        }
        x.put(0, 0);
        check.due("minute(3)", x.minute(3), 987);
        check.due("minute(12) at 987", x.minute(12), 999);
        x.undo();
        check.due("minute(1)", x.minute(1), 988);
        check.unchanged(x, "minute(12) at 988", LeechClub.FULL, () -> x.minute(12));
        check.due("minute(11) at 988", x.minute(11), 999);
        for (int n = 1; n <= 12; n++) {
            int minutes = n;
            check.unchanged(x, "minute(" + n + ") at 999", LeechClub.FULL, () -> x.minute(minutes));
        }
        check.unchanged(x, "minute(0) at 999", LeechClub.OUTSIDE, () -> x.minute(0));
        check.unchanged(x, "minute(13) at 999", LeechClub.OUTSIDE, () -> x.minute(13));
        check.due("keep(0)", x.keep(0), 999);
        x.undo();
        check.due("behind undo", x.minute(10), 998);
        check.due("minute(1)", x.minute(1), 999);
        check.due("back(0)", x.back(0), 999);
        check.unchanged(x, "minute(1)", LeechClub.FULL, () -> x.minute(1));
    }

    private static void kindsOverOneAnother() {
        check.says("KINDS are over one another: LEECH (0); COMMON (1) and BISHOP (4), each under LEECH; "
                + "STRIPED (2) is COMMON; GREEDY (3) is STRIPED; MUFF (5) is BISHOP");
        boolean[][] isSuch = {
            {true, true, false, false, false, false}, {true, true, true, false, false, false},
            {true, true, true, true, false, false}, {true, false, false, false, true, false},
            {true, false, false, false, true, true}};
        CountedClub x = Clubs.full();
        for (int l = 0; l < 5; l++) {
            for (int kind = 0; kind <= 5; kind++) {
                int leech = l;
                int taken = kind;
                int due = isSuch[l][kind] ? HAS_ROOM[l] : LeechClub.NOT;
                check.unchanged(x, "as(" + l + ", " + kind + ")", due, () -> x.as(leech, taken));
            }
        }
        check.unchanged(x, "as(0, 6)", LeechClub.OUTSIDE, () -> x.as(0, 6));
        check.unchanged(x, "as(4, -1)", LeechClub.OUTSIDE, () -> x.as(4, -1));
        check.unchanged(x, "as(5, 0)", LeechClub.UNKNOWN, () -> x.as(5, 0));
        check.unchanged(x, "as(-1, 0)", LeechClub.UNKNOWN, () -> x.as(-1, 0));
    }

    private static void put() {
        check.says("PUT (member NONE: off): the MEMBER ON whom it was; NONE. UNKNOWN; NOT: it is so");
        CountedClub x = Clubs.full();
        check.due("put(4, 3)", x.put(4, 3), NONE);
        check.due("from one to another", x.put(4, 0), 3);
        check.due("ON 0", x.leech(4, 1), 0);
        check.due("leeches ON 0", x.member(0, 1), 17);
        check.due("leeches ON 3", x.member(3, 1), 0);
        check.unchanged(x, "put(4, 0) again", LeechClub.NOT, () -> x.put(4, 0));
        check.due("off", x.put(4, NONE), 0);
        check.unchanged(x, "put(4, NONE) again", LeechClub.NOT, () -> x.put(4, NONE));
        check.unchanged(x, "put(4, 4)", LeechClub.UNKNOWN, () -> x.put(4, 4));
        check.unchanged(x, "put(4, -2)", LeechClub.UNKNOWN, () -> x.put(4, -2));
        check.unchanged(x, "put(5, 0)", LeechClub.UNKNOWN, () -> x.put(5, 0));
        check.unchanged(x, "put(5, NONE)", LeechClub.UNKNOWN, () -> x.put(5, NONE));
        check.unchanged(x, "put(-1, 0)", LeechClub.UNKNOWN, () -> x.put(-1, 0));
        check.unchanged(x, "put(-1, NONE)", LeechClub.UNKNOWN, () -> x.put(-1, NONE));
        check.due("three can be undone", x.undo(), 2);
        check.due("ON 0", x.leech(4, 1), 0);
        CountedClub y = CountedClub.of("common");
        check.unchanged(y, "put where nobody is", LeechClub.UNKNOWN, () -> y.put(0, 0));
        check.unchanged(y, "put where nobody is", LeechClub.NOT, () -> y.put(0, NONE));
    }

    private static void salt() {
        check.says("SALT: what THE BASIN has then (bits). UNKNOWN; NOT: it is ON a MEMBER");
        CountedClub x = Clubs.full();
        check.due("one that HAS nothing", x.salt(4), 0);
        check.due("can be undone", x.count(9), 1);
        x.minute(1);
        check.unchanged(x, "salt(0)", LeechClub.NOT, () -> x.salt(0));
        check.unchanged(x, "salt(1)", LeechClub.NOT, () -> x.salt(1));
        check.unchanged(x, "salt(5)", LeechClub.UNKNOWN, () -> x.salt(5));
        check.unchanged(x, "salt(-1)", LeechClub.UNKNOWN, () -> x.salt(-1));
        x.put(1, NONE);
        check.due("salt(1)", x.salt(1), 0b110000000000);
        x.put(0, NONE);
        check.due("salt(0)", x.salt(0), 0b110000000000);
        x.put(4, 3);
        x.minute(12);
        x.put(4, NONE);
        check.due("all of them", x.salt(4), 4095);
        check.unchanged(x, "boy()", 4095, x::boy);
    }

    private static void read() {
        check.says("READ: a MEMBER KNOWS ALL of a FACT, too",
                "how many FACTS he did not KNOW of these. UNKNOWN; NOT: he KNOWS it");
        CountedClub x = CountedClub.of(Clubs.CHAIN + ";member;member k;member l");
        check.due("all twelve", x.read(0, 11), 12);
        check.due("he KNOWS", x.member(0, 0), 4095);
        check.due("the last one", x.read(1, 11), 1);
        check.due("he KNOWS", x.member(1, 0), 4095);
        for (int f = 0; f < 12; f += 11) {
            int fact = f;
            check.unchanged(x, "read(2, " + f + ")", LeechClub.NOT, () -> x.read(2, fact));
        }
        check.unchanged(x, "read(0, 12)", LeechClub.UNKNOWN, () -> x.read(0, 12));
        check.unchanged(x, "read(0, -1)", LeechClub.UNKNOWN, () -> x.read(0, -1));
        check.unchanged(x, "read(3, 0)", LeechClub.UNKNOWN, () -> x.read(3, 0));
        check.unchanged(x, "read(-1, 0)", LeechClub.UNKNOWN, () -> x.read(-1, 0));
        check.due("two can be undone", x.undo(), 1);
        check.due("he KNOWS", x.member(1, 0), 2047);
        CountedClub y = CountedClub.of("fact;fact;fact ab;member a");
        check.due("two of three", y.read(0, 2), 2);
        check.due("he KNOWS", y.member(0, 0), 7);
    }

    private static void lastEightUndone() {
        check.says("The latest minute(), put(), salt(), read() is undone (the last 8 can be): how many can be undone yet. NOT: none");
        CountedClub x = CountedClub.of("fact;fact;fact;fact;fact;fact;fact;fact;fact;fact;member");
        check.unchanged(x, "undo of nothing", LeechClub.NOT, x::undo);
        for (int f = 0; f < 8; f++) {
            x.read(0, f);
            check.due("count(9)", x.count(9), f + 1);
        }
        CountedClub eight = x.again();
        for (int left = 7; left >= 0; left--) {
            check.due("undo", eight.undo(), left);
            check.due("he KNOWS", eight.member(0, 0), (1 << left) - 1);
        }
        check.unchanged(eight, "a ninth", LeechClub.NOT, eight::undo);
        x.read(0, 8);
        check.due("count(9) behind nine", x.count(9), 8);
        x.read(0, 9);
        check.due("count(9) behind ten", x.count(9), 8);
        for (int left = 7; left >= 0; left--) {
            check.due("undo", x.undo(), left);
            check.due("he KNOWS", x.member(0, 0), (4 << left) - 1);
        }
        check.unchanged(x, "a ninth", LeechClub.NOT, x::undo);
        check.due("he KNOWS", x.member(0, 0), 3);
        check.due("read again", x.read(0, 5), 1);
        check.due("count(9)", x.count(9), 1);
        check.due("undo", x.undo(), 0);
        check.due("he KNOWS", x.member(0, 0), 3);
    }

    private static void undoneTogether() {
        check.says("The latest minute(), put(), salt(), read() is undone");
        CountedClub x = CountedClub.of(ALL_KNOWN + "member;common;bishop;on 0 0");
        x.minute(5);
        x.salt(0);
        x.put(0, 1);
        x.put(0, 0);
        x.put(0, NONE);
        x.read(1, 3);
        check.due("undo of read", x.undo(), 5);
        check.due("he KNOWS", x.member(1, 0), 0);
        check.due("undo of put to off", x.undo(), 4);
        check.due("it is ON", x.leech(0, 1), 0);
        check.due("undo of put to another", x.undo(), 3);
        check.due("it is ON", x.leech(0, 1), 1);
        check.due("undo of put of one off", x.undo(), 2);
        check.due("it is off", x.leech(0, 1), NONE);
        check.due("undo of salt", x.undo(), 1);
        check.due("it HAS", x.leech(0, 2), 0b111000000000);
        check.due("THE BASIN", x.count(4), 0);
        check.due("undo of minute", x.undo(), 0);
        check.due("it HAS", x.leech(0, 2), 0);
        check.due("it is ON", x.leech(0, 1), 0);
        check.due("he KNOWS", x.member(0, 0), 4095);
        check.due("the MINUTE", x.count(3), 0);
    }

    private static void undoLeavesTheRest() {
        check.says("The latest minute(), put(), salt(), read() is undone");
        CountedClub x = Clubs.rich();
        check.due("undo", x.undo(), 6);
        check.due("SEEN", x.count(7), 2);
        check.due("slates", x.count(8), 3);
        check.due("letters", x.count(10), 15);
        check.due("kept", x.again().back(0), 1);
        check.due("kept", x.again().back(1), 1);
        for (int left = 5; left >= 0; left--) {
            check.due("undo", x.undo(), left);
        }
        check.due("keep is not undone", x.back(1), 1);
        check.due("nor slates", x.show(0, 0, 0, 0), 5);
        check.due("nor what was seen", x.forget(), 2);
    }

    private static void kept() {
        check.says("All MEMBERS, LEECHES, THE BASIN, the MINUTE are kept (k 0, 1): the MINUTE",
                "They are as they were kept, nothing can be undone");
        CountedClub x = CountedClub.of(ALL_KNOWN + "bishop;on 0 0");
        check.unchanged(x, "keep(2)", LeechClub.UNKNOWN, () -> x.keep(2));
        check.unchanged(x, "keep(-1)", LeechClub.UNKNOWN, () -> x.keep(-1));
        check.unchanged(x, "back(2)", LeechClub.UNKNOWN, () -> x.back(2));
        check.unchanged(x, "back(-1)", LeechClub.UNKNOWN, () -> x.back(-1));
        check.unchanged(x, "back(0)", LeechClub.NOT, () -> x.back(0));
        check.unchanged(x, "back(1)", LeechClub.NOT, () -> x.back(1));
        check.due("keep(1)", x.keep(1), 0);
        check.unchanged(x, "back(0), only 1 is kept", LeechClub.NOT, () -> x.back(0));
        x.minute(2);
        x.salt(0);
        check.due("keep(0)", x.keep(0), 2);
        check.due("keep leaves what can be undone", x.count(9), 2);
        x.put(0, 0);
        x.minute(1);
        x.read(0, 1);
        check.due("back(0)", x.back(0), 2);
        roomIs(x, 4092, NONE, 0, 3, 2);
        check.unchanged(x, "undo", LeechClub.NOT, x::undo);
        x.put(0, 0);
        x.minute(1);
        check.due("count(9)", x.count(9), 2);
        check.due("back(1)", x.back(1), 0);
        roomIs(x, 4095, 0, 0, 0, 0);
        x.minute(1);
        check.due("back(1) a second time", x.back(1), 0);
        roomIs(x, 4095, 0, 0, 0, 0);
        check.due("back(0), what was done since has not changed it", x.back(0), 2);
        roomIs(x, 4092, NONE, 0, 3, 2);
        x.read(0, 0);
        check.due("keep(0) anew", x.keep(0), 2);
        x.undo();
        check.due("back(0), the later one", x.back(0), 2);
        roomIs(x, 4093, NONE, 0, 3, 2);
        check.due("back(1) yet", x.back(1), 0);
    }

    private static void roomIs(CountedClub x, int knows, int on, int has, int basin, int minute) {
        check.due("member 0 KNOWS", x.member(0, 0), knows);
        check.due("leech 0 is ON", x.leech(0, 1), on);
        check.due("leech 0 HAS", x.leech(0, 2), has);
        check.due("THE BASIN", x.count(4), basin);
        check.due("the MINUTE", x.count(3), minute);
        check.due("count(9)", x.count(9), 0);
    }

    private static void backLeavesTheRest() {
        check.says("They are as they were kept");
        CountedClub x = Clubs.rich();
        check.due("back(0)", x.back(0), 1);
        check.due("SEEN", x.count(7), 2);
        check.due("slates", x.count(8), 3);
        check.due("letters", x.count(10), 15);
        check.due("facts", x.count(0), 4);
        check.due("a slate's place", x.show(0, 0, 0, 0), 5);
        check.due("the other is kept yet", x.back(1), 1);
        check.due("leech 0 HAS again", x.leech(0, 2), 8);
        check.due("the text is told", x.club(), 2);
    }

    private static void keptBeforeTheClub() {
        check.says("NOT: nothing was kept since the last CLUB");
        CountedClub x = CountedClub.of("fact");
        x.keep(0);
        x.keep(1);
        x.tell("no club");
        x.club();
        check.due("a refused club leaves it", x.back(1), 0);
        x.erase();
        x.tell("member a");
        x.club();
        check.unchanged(x, "back(0)", LeechClub.NOT, () -> x.back(0));
        check.unchanged(x, "back(1)", LeechClub.NOT, () -> x.back(1));
        check.unchanged(x, "back(2)", LeechClub.UNKNOWN, () -> x.back(2));
        x.keep(1);
        check.unchanged(x, "back(0)", LeechClub.NOT, () -> x.back(0));
        check.due("back(1)", x.back(1), 0);
    }

    private static void counts() {
        check.says("10 letters of THE TEXT. OUTSIDE");
        CountedClub x = Clubs.full();
        x.put(4, 2);
        x.minute(12);
        x.salt(0);
        for (int i = 0; i < 6; i++) {
            x.seen(0, 1, 0, 0);
        }
        for (int s = 0; s < 4; s++) {
            x.slate(s, 0, 0);
        }
        for (int i = 0; i < 4; i++) {
            x.read(2, i);
            x.minute(1);
        }
        x.tell("club");
        int[] due = {12, 4, 5, 16, 0b111000000000, 15, 4095, 6, 4, 8, 4};
        for (int what = 0; what <= 10; what++) {
            int of = what;
            check.unchanged(x, "count(" + what + ")", due[what], () -> x.count(of));
        }
        check.unchanged(x, "count(11)", LeechClub.OUTSIDE, () -> x.count(11));
        check.unchanged(x, "count(-1)", LeechClub.OUTSIDE, () -> x.count(-1));
        CountedClub y = CountedClub.of("fact;fact;member a;member b");
        check.due("FACTS that some MEMBER KNOWS", y.count(6), 3);
        y.tell("club;fact;fact;member;member b");
        y.club();
        check.due("FACTS that some MEMBER KNOWS", y.count(6), 2);
    }
}
