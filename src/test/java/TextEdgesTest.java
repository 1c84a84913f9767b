/** Each sentence of the terms, and of promises 1 to 5, that names a boundary of facts, members, leeches or the text. */
public final class TextEdgesTest {
    private static final Check check = new Check("TextEdgesTest");
    private static final int NONE = LeechClub.NONE;
    private static final String ALL_TWELVE = "abcdefghijkl";
    private static final String[] WORDS = {"club", "fact", "member", "common", "striped", "greedy", "bishop", "muff"};

    public static void main(String[] args) {
        nothingAtFirst();
        twelveFacts();
        olderOnes();
        throughAndThrough();
        fourMembers();
        fiveLeeches();
        twoHundredLetters();
        lettersByNumber();
        twentyClauses();
        oneClauseAtLeast();
        eachClause();
        clubInTheMidst();
        setsOfLetters();
        setsOnlyWhereTold();
        onToldAhead();
        numbersOfOneDigit();
        whereATokenBegins();
        everyLetter();
        tooSoon();
        inTheirOrder();
        toldStays();
        toldAnew();
        refusedClub();
        check.end();
    }

    private static void fault(String text, int want) {
        fault(new CountedClub(), text, want);
    }

    /** The fault of a text behind what a club was told before; looking for it changes nothing. */
    private static void fault(CountedClub x, String text, int want) {
        x.erase();
        x.tell(text);
        check.unchanged(x, "fault of '" + text + "'", want, x::fault);
        check.due("letters of '" + text + "'", x.count(10), text.length());
        if (want != NONE) {
            check.unchanged(x, "club of '" + text + "'", LeechClub.NOT, x::club);
        }
    }

    private static void nothingAtFirst() {
        check.says("No facts, no slates");
        CountedClub x = new CountedClub();
        for (int what = 0; what <= 10; what++) {
            check.due("count(" + what + ")", x.count(what), 0);
        }
        check.unchanged(x, "fact(0, 0)", LeechClub.UNKNOWN, () -> x.fact(0, 0));
        check.unchanged(x, "member(0, 0)", LeechClub.UNKNOWN, () -> x.member(0, 0));
        check.unchanged(x, "leech(0, 0)", LeechClub.UNKNOWN, () -> x.leech(0, 0));
        check.unchanged(x, "boy()", 0, x::boy);
        check.unchanged(x, "kinds()", 31, x::kinds);
        check.unchanged(x, "most(0, 0, NONE)", 0, () -> x.most(0, 0, NONE));
        check.unchanged(x, "forget()", 0, x::forget);
        check.unchanged(x, "erase()", 0, x::erase);
        check.unchanged(x, "undo()", LeechClub.NOT, x::undo);
        check.unchanged(x, "back(0)", LeechClub.NOT, () -> x.back(0));
        check.unchanged(x, "back(1)", LeechClub.NOT, () -> x.back(1));
        for (int s = 0; s < 4; s++) {
            int slate = s;
            check.unchanged(x, "drop(" + s + ")", LeechClub.NULL, () -> x.drop(slate));
        }
    }

    private static void twelveFacts() {
        check.says("(written a, b ..), 12 at most (none at first), the oldest first",
                "a thirteenth cannot stand there (at its word)");
        fault(Clubs.TWELVE_FACTS, NONE);
        fault(Clubs.TWELVE_FACTS + ";fact", 60);
        fault(Clubs.TWELVE_FACTS + ";  fact  a", 62);
        fault(Clubs.TWELVE_FACTS + ";member;fact;x", 67);
        CountedClub x = CountedClub.of(Clubs.TWELVE_FACTS + ";member l;member a");
        check.due("count(0)", x.count(0), 12);
        check.due("l is FACT 11", x.member(0, 0), 2048);
        check.due("a is FACT 0", x.member(1, 0), 1);
        check.due("fact(11, 1)", x.fact(11, 1), 2048);
        check.unchanged(x, "fact(12, 1)", LeechClub.UNKNOWN, () -> x.fact(12, 1));
        fault(x, "fact", 0);
        fault(x, "member l", NONE);
        fault(x, "member m", 7);
        fault(x, "club;fact", NONE);
        CountedClub eleven = CountedClub.of(Clubs.TWELVE_FACTS.substring(5));
        fault(eleven, "member l", 7);
        fault(eleven, "fact", NONE);
        fault(eleven, "fact;fact", 5);
        fault(eleven, "fact;member l", NONE);
        check.due("club()", eleven.club(), 2);
        check.due("count(0)", eleven.count(0), 12);
    }

    private static void olderOnes() {
        check.says("each LEANS on a set (bits) of older ones");
        fault("fact a", 5);
        fault("fact;fact b", 10);
        fault("fact;fact a", NONE);
        fault("fact;fact ab", 10);
        StringBuilder text = new StringBuilder("fact");
        for (int f = 1; f < 12; f++) {
            text.append(";fact ").append(ALL_TWELVE, 0, f);
        }
        CountedClub x = CountedClub.of(text.toString());
        for (int f = 0; f < 12; f++) {
            check.due("fact(" + f + ", 0)", x.fact(f, 0), (1 << f) - 1);
            check.due("fact(" + f + ", 1)", x.fact(f, 1), (2 << f) - 1);
        }
    }

    private static void throughAndThrough() {
        check.says("ALL of a set is it and all that its FACTS lean on, and these on, through and through");
        CountedClub x = CountedClub.of(Clubs.CHAIN + ";member l;member a;member c;muff;on 0 0");
        for (int f = 0; f < 12; f++) {
            check.due("fact(" + f + ", 0)", x.fact(f, 0), f == 0 ? 0 : 1 << f - 1);
            check.due("fact(" + f + ", 1)", x.fact(f, 1), (2 << f) - 1);
        }
        check.due("each KNOWS a set that is ALL of itself", x.member(0, 0), 4095);
        check.due("each KNOWS a set that is ALL of itself", x.member(1, 0), 1);
        check.due("each KNOWS a set that is ALL of itself", x.member(2, 0), 7);
        x.minute(1);
        check.due("all that leans on what is LOST is LOST", x.member(0, 0), 0);
        check.due("what is taken is one FACT", x.leech(0, 2), 1);
        CountedClub fork = CountedClub.of("fact;fact;fact a;fact b;fact cd;fact e;member f");
        check.due("fact(5, 1)", fork.fact(5, 1), 63);
        check.due("fact(2, 1)", fork.fact(2, 1), 5);
        check.due("fact(4, 1)", fork.fact(4, 1), 31);
        check.due("member(0, 0)", fork.member(0, 0), 63);
    }

    private static void fourMembers() {
        check.says("MEMBERS are 0, 1 .., 4 at most", "a fifth cannot");
        fault("member;member;member;member", NONE);
        fault("member;member;member;member;member", 28);
        fault("fact;member;member;member;member; member a", 34);
        CountedClub x = CountedClub.of("member;member;member");
        fault(x, "member", NONE);
        fault(x, "member;member", 7);
        fault(x, "club;member;member;member;member", NONE);
        fault(x, "member;common;on 0 3", NONE);
        check.due("club()", x.club(), 3);
        check.due("count(1)", x.count(1), 4);
        check.due("member(3, 1)", x.member(3, 1), 1);
        check.unchanged(x, "member(4, 1)", LeechClub.UNKNOWN, () -> x.member(4, 1));
        fault(x, "member", 0);
    }

    private static void fiveLeeches() {
        check.says("LEECHES are 0, 1 .., 5 at most",
                "or off (at first), and HAS a set (nothing at first)",
                "a LEECH more, a sixth cannot");
        for (String word : new String[] {"common", "striped", "greedy", "bishop", "muff"}) {
            fault("muff;muff;muff;muff;" + word, NONE);
            fault("muff;muff;muff;muff;muff;" + word, 25);
            fault("muff;muff;muff;muff;muff; " + word + ";", 26);
        }
        CountedClub x = CountedClub.of("common;striped;greedy;bishop");
        fault(x, "muff;common", 5);
        fault(x, "muff", NONE);
        check.due("club()", x.club(), 1);
        check.due("count(2)", x.count(2), 5);
        check.due("count(5)", x.count(5), 31);
        for (int l = 0; l < 5; l++) {
            check.due("leech(" + l + ", 0)", x.leech(l, 0), l);
            check.due("leech(" + l + ", 1)", x.leech(l, 1), NONE);
            check.due("leech(" + l + ", 2)", x.leech(l, 2), 0);
        }
        check.unchanged(x, "leech(5, 0)", LeechClub.UNKNOWN, () -> x.leech(5, 0));
        fault(x, "common", 0);
        fault(x, "club;common;common;common;common;common", NONE);
        check.due("THE BASIN has nothing at first", x.count(4), 0);
    }

    private static void twoHundredLetters() {
        check.says("THE TEXT is a row of letters, 200 at most");
        CountedClub x = new CountedClub();
        for (int n = 1; n <= 200; n++) {
            check.due("write", x.write(n <= 196 ? ' ' : "club".charAt(n - 197)), n);
        }
        check.unchanged(x, "the 201st", LeechClub.FULL, () -> x.write(' '));
        check.unchanged(x, "fault()", NONE, x::fault);
        check.due("count(10)", x.count(10), 200);
        check.due("erase()", x.erase(), 200);
        check.due("count(10)", x.count(10), 0);
        check.unchanged(x, "erase()", 0, x::erase);
        check.due("write", x.write('x'), 1);
        CountedClub y = new CountedClub();
        y.tell("club" + " ".repeat(196));
        check.due("club() of 200 letters", y.club(), 1);
        check.due("it is empty then", y.count(10), 0);
        y.tell("x".repeat(200));
        check.unchanged(y, "the 201st", LeechClub.FULL, () -> y.write('x'));
        check.unchanged(y, "fault()", 0, y::fault);
        CountedClub z = new CountedClub();
        z.tell("club;" + "x".repeat(194));
        check.due("the 200th", z.write('x'), 200);
        check.due("a token up to the end", z.fault(), 5);
    }

    private static void lettersByNumber() {
        check.says("A letter (its number, 0 .. 255)");
        CountedClub x = new CountedClub();
        check.due("write(0)", x.write(0), 1);
        check.due("write(255)", x.write(255), 2);
        check.unchanged(x, "write(256)", LeechClub.OUTSIDE, () -> x.write(256));
        check.unchanged(x, "write(-1)", LeechClub.OUTSIDE, () -> x.write(-1));
        check.unchanged(x, "write('a' + 256)", LeechClub.OUTSIDE, () -> x.write('a' + 256));
    }

    private static void twentyClauses() {
        check.says("CLAUSES with ; between, 20 at most");
        for (int n = 1; n <= 20; n++) {
            CountedClub x = new CountedClub();
            x.tell("club;".repeat(n - 1) + "club");
            check.due("club() of " + n, x.club(), n);
        }
        fault("club;".repeat(19) + "fact", NONE);
        fault("club;".repeat(19) + "fact a", 100);
        fault("club;".repeat(19) + "club;club", 99);
        fault("club;".repeat(19) + "club ;fact", 100);
        fault("club;".repeat(19) + "club;", 99);
        fault("club;".repeat(19) + "clubs;club", 95);
        fault("club;".repeat(19) + "club  ", NONE);
        CountedClub x = CountedClub.of("club;".repeat(19) + "fact");
        check.due("count(0)", x.count(0), 1);
        fault(x, "fact;".repeat(10) + "fact" + ";common".repeat(5) + ";member".repeat(4), NONE);
        check.due("the next text has 20 again", x.club(), 20);
    }

    private static void oneClauseAtLeast() {
        check.says("taken as a CLUB: CLAUSES with ; between");
        fault("", 0);
        fault(" ", 1);
        fault(" ".repeat(200), 200);
        fault(";", 0);
        fault(" ;", 1);
        fault(";club", 0);
        fault("club;;club", 5);
        fault("club; ;club", 6);
        fault("club club", 5);
        fault("club,club", 4);
        fault("club:club", 4);
    }

    private static void eachClause() {
        check.says("each is one of: club. fact. fact WS. member. member WS. common. striped. greedy. bishop. muff. on L M.");
        for (String word : WORDS) {
            fault(word, NONE);
            for (int i = 0; i < word.length(); i++) {
                fault(word.substring(0, i) + "z" + word.substring(i + 1), 0);
                fault(word.substring(0, i) + "Z" + word.substring(i + 1), 0);
                if (i > 0) {
                    String end = word.substring(i);
                    fault(word.substring(0, i), 0);
                    fault(end, end.equals("on") ? 2 : 0);
                    fault(word.substring(0, i) + " " + word.substring(i), 0);
                }
            }
            fault(word + word, 0);
            fault(word + "a", 0);
            fault(word.toUpperCase(), 0);
        }
        for (String word : new String[] {"o", "n", "no", "onn", "oon", "ON", "oN", "leech", "points", "ws"}) {
            fault("member;common;" + word + " 0 0", 14);
        }
    }

    private static void clubInTheMidst() {
        check.says("club: all as at first");
        fault("fact;club;fact a", 15);
        fault("fact;club;member a", 17);
        fault("member;common;club;on 0 0", 22);
        fault("member;common;club;common;on 0 0", 31);
        fault("common;member;club;member;on 0 0", 29);
        fault("fact;fact;club;fact;fact b", 25);
        CountedClub x = CountedClub.of(Clubs.TWELVE_FACTS + ";club;" + "fact;fact a;member b");
        check.due("count(0)", x.count(0), 2);
        check.due("fact(0, 0)", x.fact(0, 0), 0);
        check.due("fact(1, 0)", x.fact(1, 0), 1);
        check.due("member(0, 0)", x.member(0, 0), 3);
        x.tell("club");
        check.due("club()", x.club(), 1);
        for (int what = 0; what <= 10; what++) {
            check.due("count(" + what + ")", x.count(what), 0);
        }
        check.unchanged(x, "fact(0, 0)", LeechClub.UNKNOWN, () -> x.fact(0, 0));
        check.unchanged(x, "member(0, 0)", LeechClub.UNKNOWN, () -> x.member(0, 0));
        CountedClub lean = CountedClub.of("fact;fact a;fact b;member c;muff;on 0 0;club;fact;fact;fact;member abc;muff;on 0 0");
        check.due("fact(2, 1)", lean.fact(2, 1), 4);
        lean.minute(1);
        check.due("what leant before the club is forgotten", lean.member(0, 0), 6);
    }

    private static void setsOfLetters() {
        check.says("WS one to twelve letters in a row, rising, none twice, of FACTS told ahead");
        for (int n = 1; n <= 12; n++) {
            fault(Clubs.TWELVE_FACTS + ";member " + ALL_TWELVE.substring(0, n), NONE);
            fault(Clubs.TWELVE_FACTS + ";member " + ALL_TWELVE.substring(12 - n), NONE);
        }
        fault(Clubs.TWELVE_FACTS + ";member " + ALL_TWELVE + "m", 67);
        fault(Clubs.TWELVE_FACTS + ";member " + ALL_TWELVE + "l", 67);
        fault(Clubs.TWELVE_FACTS + ";member a" + ALL_TWELVE, 67);
        fault(Clubs.TWELVE_FACTS + ";member al", NONE);
        fault(Clubs.TWELVE_FACTS + ";member la", 67);
        fault(Clubs.TWELVE_FACTS + ";member kk", 67);
        fault(Clubs.TWELVE_FACTS + ";member abdc", 67);
        fault(Clubs.TWELVE_FACTS + ";member m", 67);
        fault(Clubs.TWELVE_FACTS + ";member z", 67);
        fault(Clubs.TWELVE_FACTS + ";member abz", 67);
        fault("fact;fact;fact ab", NONE);
        fault("fact;fact;fact aa", 15);
        fault("fact;fact;fact ba", 15);
        fault("fact;fact;fact c", 15);
        fault("fact;fact;fact bc", 15);
        fault("fact;member b;fact", 12);
        fault("fact;fact;member a b", 19);
        fault("fact;member A", 12);
        fault("fact;member 0", 12);
        fault("fact;member a0", 13);
        fault("fact;fact;member a,b", 18);
        CountedClub x = CountedClub.of(Clubs.TWELVE_FACTS + ";member acegik;member " + ALL_TWELVE + ";member");
        check.due("member(0, 0)", x.member(0, 0), 0b010101010101);
        check.due("member(1, 0)", x.member(1, 0), 4095);
        check.due("member(2, 0), told without a WS", x.member(2, 0), 0);
    }

    private static void setsOnlyWhereTold() {
        check.says("fact. fact WS. member. member WS.");
        for (String word : new String[] {"club", "common", "striped", "greedy", "bishop", "muff"}) {
            fault("fact;" + word + " a", 6 + word.length());
        }
        fault("fact;member;common;on a 0", 22);
        fault("fact;member;common;on 0 a", 24);
        fault("fact;member;common;on 0 0 a", 26);
        fault("fact;member;common;on a", 22);
    }

    private static void onToldAhead() {
        check.says("on: LEECH L, told ahead, is ON MEMBER M, told ahead");
        String four = "member;member;member;member;";
        String five = "common;common;common;common;common;";
        for (int l = 0; l <= 9; l++) {
            fault(four + five + "on " + l + " 0", l <= 4 ? NONE : 66);
            fault("member;common;on " + l + " 0", l == 0 ? NONE : 17);
        }
        for (int m = 0; m <= 9; m++) {
            fault(four + five + "on 4 " + m, m <= 3 ? NONE : 68);
            fault("member;common;on 0 " + m, m == 0 ? NONE : 19);
        }
        fault("member;on 0 0;common", 10);
        fault("common;on 0 0;member", 12);
        fault("member;common;on 1 0;common", 17);
        fault("member;common;on 0 1;member", 19);
        CountedClub x = CountedClub.of("member;common");
        fault(x, "on 0 0", NONE);
        fault(x, "on 1 0", 3);
        fault(x, "on 0 1", 5);
        fault(x, "common;member;on 1 1", NONE);
        check.due("club()", x.club(), 3);
        check.due("leech(0, 1)", x.leech(0, 1), NONE);
        check.due("leech(1, 1)", x.leech(1, 1), 1);
    }

    private static void numbersOfOneDigit() {
        check.says("numbers of 1 digit", "(a number out of its bounds, of more digits, also)");
        String start = "member;common;on ";
        fault(start + "00 0", 17);
        fault(start + "01 0", 17);
        fault(start + "10 0", 17);
        fault(start + "0 00", 19);
        fault(start + "0 01", 19);
        fault(start + "0 10", 19);
        fault(start + "4294967296 0", 17);
        fault(start + "0 4294967296", 19);
        fault(start + "0 18446744073709551616", 19);
        fault(start + "0".repeat(183), 17);
        fault(start + "0 " + "0".repeat(181), 19);
        fault(start + "-0 0", 17);
        fault(start + "+0 0", 17);
        fault(start + "0 -0", 19);
        fault(start + "0,0", 18);
        fault(start + "0.0", 18);
    }

    private static void whereATokenBegins() {
        check.says("A FAULT is at the first TOKEN (a row of small letters, a row of digits, any other letter) that cannot stand there");
        fault("   nobody", 3);
        fault("fact;   nobody;nobody", 8);
        fault("fact 123 fact", 5);
        fault("fact  ::", 6);
        fault("fact::", 4);
        fault("fact ;", 6);
        fault("fact12", 4);
        fault("12fact", 0);
        fault("fact;12", 5);
        fault("member;common;on0 0", NONE);
        fault("member;common;on 0 0;", 21);
        fault("member;common;on 0 0x", 20);
        fault("member;common;on 0 0 0", 21);
        fault("member;common;on 0x0", 18);
        fault("member;common;on;", 16);
        fault("member;common;on 0;", 18);
        fault("member;common;  on   0   0  ;  muff  ", NONE);
        fault("member;common;  on   5   0  ;  muff  ", 21);
        fault("member;common;  on   0   5  ;  muff  ", 25);
    }

    /** Each letter behind a word, and ahead of one. */
    private static void everyLetter() {
        check.says("small letters a .. z, numbers of 1 digit, blanks between");
        for (int letter = 0; letter <= 255; letter++) {
            boolean isSmall = letter >= 'a' && letter <= 'z';
            String sign = String.valueOf((char) letter);
            fault("club" + sign, letter == ' ' ? NONE : isSmall ? 0 : letter == ';' ? 5 : 4);
            fault(sign + "club", letter == ' ' ? NONE : 0);
            fault("club;" + sign, letter == ' ' ? 6 : 5);
            fault("fact;member " + sign, letter == ' ' || letter == 'a' ? NONE : letter == ';' ? 13 : 12);
            fault("member;common;on" + sign + "0 0", letter == ' ' ? NONE : isSmall ? 14 : 16);
            fault("member;common;on 0" + sign + "0", letter == ' ' ? NONE : letter >= '0' && letter <= '9' ? 17 : 18);
        }
    }

    private static void tooSoon() {
        check.says("or at the end, if it comes too soon", "(the letter with which the TOKEN begins, or the length)");
        for (String word : WORDS) {
            fault(word + ";", word.length() + 1);
            fault(word + ";  ", word.length() + 3);
        }
        fault("on", 2);
        fault("on ", 3);
        fault("member;common;on", 16);
        fault("member;common;on ", 17);
        fault("member;common;on 0", 18);
        fault("member;common;on 0  ", 20);
        fault("club;" + " ".repeat(195), 200);
        fault("member;common;on 0" + " ".repeat(182), 200);
        fault("fact ", NONE);
        fault("member ", NONE);
    }

    private static void inTheirOrder() {
        check.says("CLAUSES are done in their order");
        CountedClub x = CountedClub.of("member;member;common;common;on 0 0;on 1 1;on 0 1;on 1 0;on 1 0");
        check.due("leech(0, 1)", x.leech(0, 1), 1);
        check.due("leech(1, 1)", x.leech(1, 1), 0);
        CountedClub y = CountedClub.of("fact;member a;greedy;on 0 0;club;fact;fact a;member b;muff");
        check.due("member(0, 0)", y.member(0, 0), 3);
        check.due("leech(0, 0)", y.leech(0, 0), 4);
        check.due("leech(0, 1)", y.leech(0, 1), NONE);
        CountedClub z = CountedClub.of("bishop;greedy;muff;common;striped");
        int[] kinds = {3, 2, 4, 0, 1};
        for (int l = 0; l < 5; l++) {
            check.due("leech(" + l + ", 0)", z.leech(l, 0), kinds[l]);
        }
    }

    private static void toldStays() {
        check.says("what earlier texts told stays as it was told");
        CountedClub x = CountedClub.of("fact;fact a;member b;greedy;muff;on 0 0");
        x.tell("fact a");
        check.due("club()", x.club(), 1);
        check.due("fact(1, 0)", x.fact(1, 0), 1);
        check.due("fact(2, 0)", x.fact(2, 0), 1);
        check.due("member(0, 0)", x.member(0, 0), 3);
        check.due("leech(0, 1)", x.leech(0, 1), 0);
        check.due("leech(1, 1)", x.leech(1, 1), NONE);
        x.put(1, 0);
        x.put(0, NONE);
        x.read(0, 2);
        x.minute(1);
        x.tell("on 1 0");
        check.due("club()", x.club(), 1);
        check.due("what was read and taken since is not told", x.member(0, 0), 3);
        check.due("leech(0, 1)", x.leech(0, 1), 0);
        check.due("leech(1, 1)", x.leech(1, 1), 0);
        x.tell("common");
        check.due("club()", x.club(), 1);
        check.due("on, told before", x.leech(1, 1), 0);
    }

    private static void toldAnew() {
        check.says("Behind them all is as told, LEECHES HAVE nothing, THE BASIN has nothing, it is MINUTE 0, "
                + "nothing is SEEN, nothing is kept or can be undone; SLATES stay");
        CountedClub x = Clubs.rich();
        x.put(2, NONE);
        x.salt(2);
        x.minute(12);
        check.due("club()", x.club(), 2);
        check.due("it is empty then", x.count(10), 0);
        check.due("facts", x.count(0), 5);
        check.due("members", x.count(1), 4);
        check.due("leeches", x.count(2), 4);
        int[] knows = {15, 3, 0, 15};
        for (int m = 0; m < 4; m++) {
            check.due("member(" + m + ", 0)", x.member(m, 0), knows[m]);
        }
        int[] on = {0, NONE, 1, NONE};
        for (int l = 0; l < 4; l++) {
            check.due("leech(" + l + ", 1)", x.leech(l, 1), on[l]);
            check.due("leech(" + l + ", 2)", x.leech(l, 2), 0);
        }
        check.due("the MINUTE", x.count(3), 0);
        check.due("THE BASIN", x.count(4), 0);
        check.due("SEEN", x.count(7), 0);
        check.due("undoable", x.count(9), 0);
        check.unchanged(x, "undo()", LeechClub.NOT, x::undo);
        check.unchanged(x, "back(0)", LeechClub.NOT, () -> x.back(0));
        check.unchanged(x, "back(1)", LeechClub.NOT, () -> x.back(1));
        check.unchanged(x, "kinds()", 31, x::kinds);
        check.due("slates", x.count(8), 3);
        check.due("show(0, 0, 0, 0)", x.show(0, 0, 0, 0), 5);
        check.due("show(1, 1, 1, 0)", x.show(1, 1, 1, 0), 2000001);
        check.due("show(2, 2, 3, 1)", x.show(2, 2, 3, 1), 4);
        check.due("keep(0) is since the last CLUB", x.keep(0), 0);
        check.due("back(0)", x.back(0), 0);
    }

    private static void refusedClub() {
        check.says("NOT: it has a FAULT");
        CountedClub x = Clubs.rich();
        x.write(';');
        check.unchanged(x, "club() with a fault", LeechClub.NOT, x::club);
        x.tell("club;fact b");
        check.unchanged(x, "club() with a fault behind a club", LeechClub.NOT, x::club);
        x.erase();
        check.unchanged(x, "club() of no letters", LeechClub.NOT, x::club);
        check.due("undo()", x.undo(), 6);
        check.due("back(1)", x.back(1), 1);
        check.due("back(0)", x.back(0), 1);
    }
}
