/** Promises 6 to 16: what is told of facts, members and leeches, and what is done. */
public final class ClubTest {
    private static final Check check = new Check("ClubTest");
    private static final String CLUB = "fact;fact a;fact;fact bc;fact d;member e;member b;member;"
            + "common;striped;greedy;bishop;muff;on 0 0;on 3 1";

    public static void main(String[] args) {
        fact();
        member();
        leech();
        as();
        minute();
        minuteByKind();
        minuteInTurn();
        minuteRefused();
        put();
        salt();
        read();
        undo();
        undoOfEach();
        keepAndBack();
        count();
        fullClub();
        smallerClub();
        check.end();
    }

    private static void fact() {
        CountedClub x = CountedClub.of(CLUB);
        int[] leans = {0, 1, 0, 6, 8};
        int[] all = {1, 3, 4, 15, 31};
        int[] known = {3, 3, 1, 1, 1};
        for (int f = 0; f < 5; f++) {
            check.due("fact(" + f + ", 0)", x.fact(f, 0), leans[f]);
            check.due("fact(" + f + ", 1)", x.fact(f, 1), all[f]);
            check.due("fact(" + f + ", 2)", x.fact(f, 2), known[f]);
            check.due("fact(" + f + ", 3)", x.fact(f, 3), 0);
        }
        x.minute(1);
        check.due("who has 4", x.fact(4, 3), 1);
        check.due("who has 0", x.fact(0, 3), 8);
        check.due("who has 1, that was lost", x.fact(1, 3), 0);
        check.due("who knows 1 yet", x.fact(1, 2), 1);
        check.unchanged(x, "fact(5, 0)", LeechClub.UNKNOWN, () -> x.fact(5, 0));
        check.unchanged(x, "fact(-1, 9)", LeechClub.UNKNOWN, () -> x.fact(-1, 9));
        check.unchanged(x, "fact(0, 4)", LeechClub.OUTSIDE, () -> x.fact(0, 4));
        check.unchanged(x, "fact(0, -1)", LeechClub.OUTSIDE, () -> x.fact(0, -1));
    }

    private static void member() {
        CountedClub x = CountedClub.of(CLUB);
        int[] knows = {31, 3, 0};
        int[] leeches = {1, 8, 0};
        int[] above = {0, 3, 1};
        int[] below = {1, 5, 1};
        for (int m = 0; m < 3; m++) {
            check.due("member(" + m + ", 0)", x.member(m, 0), knows[m]);
            check.due("member(" + m + ", 1)", x.member(m, 1), leeches[m]);
            check.due("member(" + m + ", 2)", x.member(m, 2), above[m]);
            check.due("member(" + m + ", 3)", x.member(m, 3), below[m]);
        }
        check.unchanged(x, "member(3, 9)", LeechClub.UNKNOWN, () -> x.member(3, 9));
        check.unchanged(x, "member(-1, 0)", LeechClub.UNKNOWN, () -> x.member(-1, 0));
        check.unchanged(x, "member(0, 4)", LeechClub.OUTSIDE, () -> x.member(0, 4));
        check.unchanged(x, "member(0, -1)", LeechClub.OUTSIDE, () -> x.member(0, -1));
        CountedClub half = CountedClub.of("fact;fact;fact;fact;member bd");
        check.due("clear by halves, above", half.member(0, 2), 1);
        check.due("clear by halves, below", half.member(0, 3), 2);
        CountedClub lower = CountedClub.of(CLUB);
        check.due("below alone", lower.member(1, 3), 5);
        check.due("below of another", lower.member(0, 3), 1);
        check.due("above of the first", lower.member(1, 2), 3);
        CountedClub none = CountedClub.of("member");
        check.due("clear of no facts, above", none.member(0, 2), 1);
        check.due("clear of no facts, below", none.member(0, 3), 1);
    }

    private static void leech() {
        CountedClub x = CountedClub.of(CLUB);
        int[] on = {0, -1, -1, 1, -1};
        for (int l = 0; l < 5; l++) {
            check.due("leech(" + l + ", 0)", x.leech(l, 0), l);
            check.due("leech(" + l + ", 1)", x.leech(l, 1), on[l]);
            check.due("leech(" + l + ", 2)", x.leech(l, 2), 0);
        }
        x.minute(2);
        check.due("has", x.leech(0, 2), 24);
        check.due("has", x.leech(3, 2), 1);
        check.due("on one who knows nothing", x.leech(3, 1), 1);
        check.unchanged(x, "leech(5, 9)", LeechClub.UNKNOWN, () -> x.leech(5, 9));
        check.unchanged(x, "leech(-1, 0)", LeechClub.UNKNOWN, () -> x.leech(-1, 0));
        check.unchanged(x, "leech(0, 3)", LeechClub.OUTSIDE, () -> x.leech(0, 3));
        check.unchanged(x, "leech(0, -1)", LeechClub.OUTSIDE, () -> x.leech(0, -1));
    }

    private static void as() {
        CountedClub x = CountedClub.of(CLUB);
        int not = LeechClub.NOT;
        int[][] room = {
            {3, 3, not, not, not, not}, {6, 6, 6, not, not, not}, {9, 9, 9, 9, not, not},
            {2, not, not, not, 2, not}, {99, not, not, not, 99, 99}};
        for (int l = 0; l < 5; l++) {
            for (int kind = 0; kind < 6; kind++) {
                check.due("as(" + l + ", " + kind + ")", x.as(l, kind), room[l][kind]);
            }
        }
        check.unchanged(x, "as(5, 9)", LeechClub.UNKNOWN, () -> x.as(5, 9));
        check.unchanged(x, "as(-1, 0)", LeechClub.UNKNOWN, () -> x.as(-1, 0));
        check.unchanged(x, "as(0, 6)", LeechClub.OUTSIDE, () -> x.as(0, 6));
        check.unchanged(x, "as(0, -1)", LeechClub.OUTSIDE, () -> x.as(0, -1));
        check.unchanged(x, "as(0, 4)", LeechClub.NOT, () -> x.as(0, 4));
    }

    private static void minute() {
        CountedClub x = CountedClub.of(CLUB);
        check.due("minute(1)", x.minute(1), 1);
        check.due("newest is taken", x.member(0, 0), 15);
        check.due("oldest is taken, with all that leans on it", x.member(1, 0), 0);
        check.due("minute(2)", x.minute(2), 3);
        check.due("three are taken", x.member(0, 0), 3);
        check.due("it has three", x.leech(0, 2), 28);
        check.due("it is off", x.leech(0, 1), LeechClub.NONE);
        check.due("minute(12)", x.minute(12), 15);
        check.due("nothing more", x.member(0, 0), 3);
    }

    /** Twelve facts that lean on nothing, one leech: what he knows and whether it is on, minute by minute. */
    private static void minuteByKind() {
        String twelve = "fact;fact;fact;fact;fact;fact;fact;fact;fact;fact;fact;fact;member abcdefghijkl;";
        byKind(twelve + "common", new int[] {2047, 1023, 511, 511}, 3);
        byKind(twelve + "striped", new int[] {1023, 255, 63, 63}, 3);
        byKind(twelve + "greedy", new int[] {511, 63, 7, 7}, 3);
        byKind(twelve + "bishop", new int[] {4094, 4092, 4092}, 2);
        byKind(twelve + "muff", new int[] {4094, 4092, 4088, 4080, 4064, 4032, 3968, 3840, 3584, 3072, 2048, 0, 0}, 99);
    }

    private static void byKind(String text, int[] knows, int offBehind) {
        CountedClub x = CountedClub.of(text);
        x.put(0, 0);
        for (int n = 1; n <= knows.length; n++) {
            x.minute(1);
            check.due(text + ": knows behind " + n, x.member(0, 0), knows[n - 1]);
            check.due(text + ": has behind " + n, x.leech(0, 2), 4095 & ~knows[n - 1]);
            check.due(text + ": on behind " + n, x.leech(0, 1), n >= offBehind ? LeechClub.NONE : 0);
        }
    }

    private static void minuteInTurn() {
        CountedClub x = CountedClub.of("fact;fact;fact a;fact;member abcd;greedy;muff;common;on 0 0;on 1 0;on 2 0");
        x.minute(1);
        check.due("the greedy first", x.leech(0, 2), 14);
        check.due("then the muff", x.leech(1, 2), 1);
        check.due("then the common", x.leech(2, 2), 0);
        check.due("who knows nothing", x.member(0, 0), 0);
        CountedClub y = CountedClub.of("fact;fact;fact a;fact;member abcd;muff;greedy;common;on 0 0;on 1 0;on 2 0");
        y.minute(1);
        check.due("the muff first", y.leech(0, 2), 1);
        check.due("then the greedy, what is left", y.leech(1, 2), 10);
        CountedClub z = CountedClub.of("fact;fact;fact;member abc;bishop;on 0 0");
        z.minute(1);
        z.read(0, 0);
        z.minute(1);
        check.due("a fact taken twice counts once", z.leech(0, 2), 1);
        check.due("so it is on", z.leech(0, 1), 0);
        z.minute(1);
        check.due("sated", z.leech(0, 1), LeechClub.NONE);
        z.put(0, 0);
        check.due("put on again", z.leech(0, 1), 0);
        z.minute(1);
        check.due("a sated one takes nothing", z.member(0, 0), 4);
        check.due("and is off", z.leech(0, 1), LeechClub.NONE);
        CountedClub w = CountedClub.of("fact;fact;fact;fact;fact;member abcde;striped;on 0 0");
        w.minute(2);
        w.read(0, 3);
        w.read(0, 4);
        check.due("four of six", w.leech(0, 2), 30);
        w.minute(1);
        check.due("no more than it had", w.leech(0, 2), 30);
        check.due("but he has lost them", w.member(0, 0), 1);
        CountedClub v = CountedClub.of("fact;fact;fact;fact;fact;fact;fact;member abcdefg;striped;on 0 0");
        v.minute(2);
        v.read(0, 6);
        v.minute(1);
        check.due("five of six", v.leech(0, 2), 124);
        v.minute(1);
        check.due("it takes but one more, then is off", v.leech(0, 2), 126);
        check.due("the other is left to him", v.member(0, 0), 1);
    }

    private static void minuteRefused() {
        CountedClub x = CountedClub.of(CLUB);
        check.unchanged(x, "minute(0)", LeechClub.OUTSIDE, () -> x.minute(0));
        check.unchanged(x, "minute(13)", LeechClub.OUTSIDE, () -> x.minute(13));
        check.unchanged(x, "minute(-1)", LeechClub.OUTSIDE, () -> x.minute(-1));
        for (int n = 12; n <= 996; n += 12) {
            check.due("minute(12)", x.minute(12), n);
        }
        check.unchanged(x, "minute(4) at 996", LeechClub.FULL, () -> x.minute(4));
        check.due("minute(3) at 996", x.minute(3), 999);
        check.unchanged(x, "minute(1) at 999", LeechClub.FULL, () -> x.minute(1));
        check.unchanged(x, "minute(13) at 999", LeechClub.OUTSIDE, () -> x.minute(13));
        check.due("ahead at 999", x.ahead(0, 40), 3);
    }

    private static void put() {
        CountedClub x = CountedClub.of(CLUB);
        check.due("put(0, 2)", x.put(0, 2), 0);
        check.due("it is there", x.leech(0, 1), 2);
        check.due("put(0, NONE)", x.put(0, LeechClub.NONE), 2);
        check.due("it is off", x.leech(0, 1), LeechClub.NONE);
        check.due("put(1, 0)", x.put(1, 0), LeechClub.NONE);
        check.unchanged(x, "put(0, NONE) again", LeechClub.NOT, () -> x.put(0, LeechClub.NONE));
        check.unchanged(x, "put(1, 0) again", LeechClub.NOT, () -> x.put(1, 0));
        check.unchanged(x, "put(5, 0)", LeechClub.UNKNOWN, () -> x.put(5, 0));
        check.unchanged(x, "put(-1, 0)", LeechClub.UNKNOWN, () -> x.put(-1, 0));
        check.unchanged(x, "put(0, 3)", LeechClub.UNKNOWN, () -> x.put(0, 3));
        check.unchanged(x, "put(0, -2)", LeechClub.UNKNOWN, () -> x.put(0, -2));
    }

    private static void salt() {
        CountedClub x = CountedClub.of(CLUB);
        x.minute(1);
        check.unchanged(x, "salt(0), on him", LeechClub.NOT, () -> x.salt(0));
        check.unchanged(x, "salt(5)", LeechClub.UNKNOWN, () -> x.salt(5));
        check.unchanged(x, "salt(-1)", LeechClub.UNKNOWN, () -> x.salt(-1));
        x.put(0, LeechClub.NONE);
        x.put(3, LeechClub.NONE);
        check.due("salt(0)", x.salt(0), 16);
        check.due("it has nothing", x.leech(0, 2), 0);
        check.due("salt(3)", x.salt(3), 17);
        check.due("salt of nothing", x.salt(1), 17);
        check.due("the basin", x.count(4), 17);
        check.due("undoable", x.count(9), 6);
    }

    private static void read() {
        CountedClub x = CountedClub.of(CLUB);
        check.unchanged(x, "read what he knows", LeechClub.NOT, () -> x.read(0, 4));
        check.unchanged(x, "read(3, 0)", LeechClub.UNKNOWN, () -> x.read(3, 0));
        check.unchanged(x, "read(-1, 0)", LeechClub.UNKNOWN, () -> x.read(-1, 0));
        check.unchanged(x, "read(0, 5)", LeechClub.UNKNOWN, () -> x.read(0, 5));
        check.unchanged(x, "read(0, -1)", LeechClub.UNKNOWN, () -> x.read(0, -1));
        check.due("read(1, 3)", x.read(1, 3), 2);
        check.due("he knows all of it", x.member(1, 0), 15);
        check.due("read(2, 4)", x.read(2, 4), 5);
        check.due("he knows all of it", x.member(2, 0), 31);
    }

    private static void undo() {
        CountedClub x = CountedClub.of("fact;member;common");
        check.unchanged(x, "undo of nothing", LeechClub.NOT, x::undo);
        for (int i = 1; i <= 10; i++) {
            x.minute(i);
            check.due("undoable", x.count(9), Math.min(i, 8));
        }
        check.due("minute", x.count(3), 55);
        int minute = 55;
        for (int i = 10; i > 2; i--) {
            check.due("undo", x.undo(), i - 3);
            minute -= i;
            check.due("minute behind undo", x.count(3), minute);
        }
        check.unchanged(x, "a ninth undo", LeechClub.NOT, x::undo);
        check.due("minute at last", x.count(3), 3);
    }

    private static void undoOfEach() {
        CountedClub x = CountedClub.of(CLUB);
        java.util.List<java.util.List<Integer>> states = new java.util.ArrayList<>();
        states.add(Looks.at(x));
        x.minute(3);
        states.add(Looks.at(x));
        x.salt(0);
        states.add(Looks.at(x));
        x.read(1, 4);
        states.add(Looks.at(x));
        x.put(3, LeechClub.NONE);
        states.add(Looks.at(x));
        x.put(4, 2);
        x.undo();
        check.holds("put of one that was off is undone", Looks.at(x).equals(states.get(4)));
        for (int i = 3; i >= 0; i--) {
            check.due("undo", x.undo(), i);
            check.holds("it is as before " + i, Looks.at(x).equals(states.get(i)));
        }
    }

    private static void keepAndBack() {
        CountedClub x = CountedClub.of(CLUB);
        check.unchanged(x, "keep(2)", LeechClub.UNKNOWN, () -> x.keep(2));
        check.unchanged(x, "keep(-1)", LeechClub.UNKNOWN, () -> x.keep(-1));
        check.unchanged(x, "back(2)", LeechClub.UNKNOWN, () -> x.back(2));
        check.unchanged(x, "back(-1)", LeechClub.UNKNOWN, () -> x.back(-1));
        check.unchanged(x, "back(0)", LeechClub.NOT, () -> x.back(0));
        check.due("keep(0)", x.keep(0), 0);
        x.minute(3);
        x.salt(0);
        x.read(2, 2);
        check.unchanged(x, "back(1)", LeechClub.NOT, () -> x.back(1));
        check.due("keep(1)", x.keep(1), 3);
        check.due("keep leaves what can be undone", x.count(9), 3);
        java.util.List<Integer> then = Looks.atRoomOf(x);
        x.put(4, 2);
        x.minute(1);
        check.due("back(0)", x.back(0), 0);
        check.due("nothing can be undone", x.count(9), 0);
        check.due("nor is it", x.undo(), LeechClub.NOT);
        check.due("members", x.member(0, 0), 31);
        check.due("leeches", x.leech(0, 2), 0);
        check.due("on whom", x.leech(0, 1), 0);
        check.due("basin", x.count(4), 0);
        check.due("back(1)", x.back(1), 3);
        check.holds("it is as it was kept", Looks.atRoomOf(x).equals(then));
        check.due("back(0) again", x.back(0), 0);
        x.minute(5);
        check.due("keep(0) again", x.keep(0), 5);
        x.minute(5);
        check.due("back(0), the later one", x.back(0), 5);
    }

    /** As many facts, members and leeches as there can be. */
    private static void fullClub() {
        CountedClub x = CountedClub.of("fact;fact a;fact b;fact c;fact d;fact e;fact f;fact g;fact h;fact i;fact j;fact k");
        x.tell("member l;member k;member a;member;greedy;greedy;greedy;greedy;greedy;on 0 0;on 1 0;on 2 0;on 3 1;on 4 3");
        check.due("club", x.club(), 14);
        check.due("facts that are known", x.count(6), 4095);
        check.due("all of the last", x.fact(11, 1), 4095);
        check.due("who knows the first", x.fact(0, 2), 7);
        check.due("leeches on the last member", x.member(3, 1), 16);
        check.due("ahead", x.ahead(0, 1), 7);
        check.due("gone", x.gone(0, 3), 1);
        check.due("minute", x.minute(1), 1);
        check.due("who has the last", x.fact(11, 3), 1);
        check.due("who has the eighth", x.fact(7, 3), 2);
        check.due("who has the ninth", x.fact(8, 3), 10);
        check.due("facts that are known", x.count(6), 255);
        x.put(4, LeechClub.NONE);
        check.due("off", x.count(5), 16);
        check.due("the basin", x.salt(4), 0);
        check.due("read", x.read(3, 11), 12);
        check.due("soonest", x.soonest(3, 4095, 0, 1), 3);
        check.due("ask", x.ask(3, 1), 0);
        check.due("most", x.most(12, 0, 4), LeechClub.NONE);
        check.due("most", x.most(11, 1, 4), 3);
        check.due("most", x.most(11, 1, LeechClub.NONE), 9);
        check.due("undo", x.undo(), 3);
    }

    /** Members and leeches of the club before are no more, whatever they knew and had. */
    private static void smallerClub() {
        CountedClub x = CountedClub.of("fact;fact a;member ab;member ab;member b;greedy;muff;bishop;on 1 1;on 2 2");
        x.minute(1);
        x.tell("club;fact;fact;member b;striped");
        check.due("club()", x.club(), 5);
        check.due("who knows 0", x.fact(0, 2), 0);
        check.due("who knows 1", x.fact(1, 2), 1);
        check.due("who has 0", x.fact(0, 3), 0);
        check.due("what is known", x.count(6), 2);
        check.due("leeches that are off", x.count(5), 1);
        check.due("leeches on him", x.member(0, 1), 0);
        check.unchanged(x, "member 1 is no more", LeechClub.UNKNOWN, () -> x.member(1, 0));
        check.unchanged(x, "leech 1 is no more", LeechClub.UNKNOWN, () -> x.leech(1, 0));
        check.due("most", x.most(12, 0, LeechClub.NONE), 1);
        x.tell("club;fact;member");
        check.due("club()", x.club(), 3);
        check.due("nobody knows 0", x.fact(0, 2), 0);
        check.due("nothing has 0", x.fact(0, 3), 0);
        check.due("no leech is off", x.count(5), 0);
    }

    private static void count() {
        CountedClub x = CountedClub.of(CLUB);
        x.tell("club");
        x.minute(3);
        x.salt(0);
        x.seen(0, 1, 0, 1);
        x.slate(3, 2, 0);
        int[] due = {5, 3, 5, 3, 28, 23, 3, 1, 1, 2, 4};
        for (int what = 0; what <= 10; what++) {
            check.due("count(" + what + ")", x.count(what), due[what]);
        }
        check.unchanged(x, "count(11)", LeechClub.OUTSIDE, () -> x.count(11));
        check.unchanged(x, "count(-1)", LeechClub.OUTSIDE, () -> x.count(-1));
    }
}
