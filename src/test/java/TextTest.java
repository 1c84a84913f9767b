/** Promises 1 to 5: a new object, and the text. */
public final class TextTest {
    private static final Check check = new Check("TextTest");
    private static final String TWELVE = "fact;fact;fact;fact;fact;fact;fact;fact;fact;fact;fact;fact";

    public static void main(String[] args) {
        aNewObject();
        write();
        erase();
        words();
        sets();
        numbers();
        limits();
        earlierTexts();
        clubIsRefused();
        clubBeginsAnew();
        check.end();
    }

    private static void aNewObject() {
        CountedClub x = new CountedClub();
        for (int what = 0; what <= 10; what++) {
            check.due("new: count(" + what + ")", x.count(what), 0);
        }
        for (int slate = 0; slate < 4; slate++) {
            check.due("new: show", x.show(slate, 0, 0, 0), LeechClub.NULL);
        }
        check.due("new: fault", x.fault(), 0);
        check.due("new: undo", x.undo(), LeechClub.NOT);
        check.due("new: back", x.back(0), LeechClub.NOT);
        check.due("new: kinds", x.kinds(), 31);
    }

    private static void write() {
        CountedClub x = new CountedClub();
        check.due("write(0)", x.write(0), 1);
        check.due("write(255)", x.write(255), 2);
        check.unchanged(x, "write(256)", LeechClub.OUTSIDE, () -> x.write(256));
        check.unchanged(x, "write(-1)", LeechClub.OUTSIDE, () -> x.write(-1));
        for (int n = 3; n <= 200; n++) {
            check.due("write(32)", x.write(32), n);
        }
        check.unchanged(x, "the 201st", LeechClub.FULL, () -> x.write(32));
        check.unchanged(x, "write(256) when full", LeechClub.OUTSIDE, () -> x.write(256));
    }

    private static void erase() {
        CountedClub x = new CountedClub();
        check.due("erase of nothing", x.erase(), 0);
        x.tell("fact;");
        check.due("erase", x.erase(), 5);
        check.due("count(10)", x.count(10), 0);
        x.tell("fact");
        check.due("fault behind erase", x.fault(), LeechClub.NONE);
    }

    private static void fault(String text, int want) {
        CountedClub x = new CountedClub();
        x.tell(text);
        check.due("fault of '" + text + "'", x.fault(), want);
        check.due("fault of '" + text + "' again", x.fault(), want);
        check.due("letters behind fault", x.count(10), text.length());
        check.due("facts behind fault", x.count(0), 0);
    }

    private static void words() {
        for (String word : new String[] {"club", "fact", "member", "common", "striped", "greedy", "bishop", "muff"}) {
            fault(word, LeechClub.NONE);
            fault("  " + word + "  ;" + word + " ", LeechClub.NONE);
            fault(word + "s", 0);
            fault(word + "z", 0);
            fault("x" + word.substring(1), 0);
            fault(word.substring(0, word.length() - 1) + "x", 0);
            fault(word.substring(1), 0);
            fault(word + ";", word.length() + 1);
            fault(word + " ; ", word.length() + 3);
            fault(word + " 1", word.length() + 1);
            fault(word + "1", word.length());
            fault(word + "." + word, word.length());
            fault(word + ";;" + word, word.length() + 1);
            fault(";" + word, 0);
            fault(word + "\t", word.length());
            fault(word + (char) 160, word.length());
        }
        fault("", 0);
        fault("   ", 3);
        fault("Fact", 0);
        fault("  7", 2);
        fault("club club", 5);
        fault("common fact", 7);
        fault("fact;fact a a", 12);
        fault("fa ct", 0);
        fault("" + (char) 0, 0);
    }

    private static void sets() {
        fault("fact;fact;fact ab;fact abc", LeechClub.NONE);
        fault("fact;fact;fact ac", 15);
        fault("fact;fact;fact ba", 15);
        fault("fact;fact;fact aba", 15);
        fault("fact;fact;fact bb", 15);
        fault("fact;fact;member ab;member b;member", LeechClub.NONE);
        fault("fact;fact;member c", 17);
        fault("fact;fact;member z", 17);
        fault("member;member a", 14);
        fault("fact a", 5);
        fault("fact fact", 5);
        fault("fact;fact a;club;fact;fact b", 27);
        fault("fact;fact a0", 11);
        fault(TWELVE + ";member abcdefghijkl", LeechClub.NONE);
        fault(TWELVE + ";member abcdefghijklm", 67);
        fault(TWELVE + ";member abcdefghijkll", 67);
    }

    private static void numbers() {
        fault("common;member;on 0 0", LeechClub.NONE);
        fault("common;member;on0 0", LeechClub.NONE);
        fault("common;member;on  0  0  ", LeechClub.NONE);
        fault("common;member;on 00", 17);
        fault("common;member;on 0 00", 19);
        fault("common;member;on 09", 17);
        fault("common;member;on 1 0", 17);
        fault("common;member;on 0 1", 19);
        fault("common;member;on 0 9", 19);
        fault("common;member;on", 16);
        fault("common;member;on  ", 18);
        fault("common;member;on 0", 18);
        fault("common;member;on 0;", 18);
        fault("common;member;on ;", 17);
        fault("common;member;on a 0", 17);
        fault("common;member;on 0 0 0", 21);
        fault("common;member;on 0 0;on 0 0", LeechClub.NONE);
        fault("on 0 0;common;member", 3);
        fault("common;on 0 0;member", 12);
        fault("common;member;club;on 0 0", 22);
        fault("common;member;on -1 0", 17);
    }

    private static void limits() {
        fault(TWELVE, LeechClub.NONE);
        fault(TWELVE + ";fact", 60);
        fault(TWELVE + "; fact a", 61);
        fault(TWELVE + ";club;" + "fact", LeechClub.NONE);
        fault("member;member;member;member", LeechClub.NONE);
        fault("member;member;member;member;member", 28);
        fault("muff;muff;muff;muff;muff", LeechClub.NONE);
        fault("muff;muff;muff;muff;muff;common", 25);
        fault("muff;muff;common;striped;greedy;bishop", 32);
        fault("club" + " ".repeat(196), LeechClub.NONE);
        fault(" ".repeat(200), 200);
        fault(" ".repeat(196) + "club", LeechClub.NONE);
        fault(" ".repeat(180) + "common;member;on 0 0", LeechClub.NONE);
        fault(" ".repeat(199) + ";", 199);
        fault(" ".repeat(195) + "muff;", 200);
        fault("club;" + "x".repeat(195), 5);
        fault("club;" + "5".repeat(195), 5);
        String nineteen = "club;".repeat(19);
        fault(nineteen + "club", LeechClub.NONE);
        fault(nineteen + "club  ", LeechClub.NONE);
        fault(nineteen + "club;club", 99);
        fault(nineteen + "club;", 99);
        CountedClub x = CountedClub.of(nineteen + "fact");
        check.due("a fact behind nineteen", x.count(0), 1);
    }

    private static void earlierTexts() {
        CountedClub x = CountedClub.of("fact;fact a;member b;common");
        x.tell("fact b;on 0 0;on 0 1");
        check.due("fault of a later text", x.fault(), 19);
        x.erase();
        x.tell("fact b;member ac;on 0 0;member;on 0 1");
        check.due("club of a later text", x.club(), 5);
        check.due("letters behind club", x.count(10), 0);
        check.due("facts", x.count(0), 3);
        check.due("all of the third", x.fact(2, 1), 7);
        check.due("the first member", x.member(0, 0), 3);
        check.due("the second member", x.member(1, 0), 7);
        check.due("the leech, as the last clause tells", x.leech(0, 1), 1);
        x.tell("fact;fact;fact;fact;fact;fact;fact;fact;fact;fact");
        check.due("a thirteenth in a later text", x.fault(), 45);
    }

    private static void clubIsRefused() {
        CountedClub x = CountedClub.of("fact;member;muff");
        x.put(0, 0);
        x.keep(0);
        x.tell("fact;club;fact b");
        check.unchanged(x, "club with a fault", LeechClub.NOT, x::club);
        check.due("letters yet", x.count(10), 16);
        check.due("undo yet", x.undo(), 0);
        check.due("back yet", x.back(0), 0);
    }

    private static void clubBeginsAnew() {
        CountedClub x = CountedClub.of("fact;fact;member ab;member;muff;common;on 0 0");
        x.minute(2);
        x.put(0, LeechClub.NONE);
        x.salt(0);
        x.put(1, 0);
        x.put(0, 1);
        x.read(0, 1);
        x.minute(1);
        x.keep(0);
        x.keep(1);
        x.seen(0, 1, 0, 1);
        x.slate(2, 0, 3);
        x.chalk(2, 0, 1, 77, 0);
        x.tell("fact ab");
        check.due("club", x.club(), 1);
        check.due("minute", x.count(3), 0);
        check.due("basin", x.count(4), 0);
        check.due("seen", x.count(7), 0);
        check.due("slates stay", x.count(8), 1);
        check.due("a place stays", x.show(2, 0, 1, 0), 77);
        check.due("undoable", x.count(9), 0);
        check.due("undo", x.undo(), LeechClub.NOT);
        check.due("back(0)", x.back(0), LeechClub.NOT);
        check.due("back(1)", x.back(1), LeechClub.NOT);
        check.due("member 0", x.member(0, 0), 3);
        check.due("member 1", x.member(1, 0), 0);
        check.due("leech 0 is on", x.leech(0, 1), 0);
        check.due("leech 1 is off", x.leech(1, 1), LeechClub.NONE);
        check.due("leech 0 has", x.leech(0, 2), 0);
        check.due("leech 1 has", x.leech(1, 2), 0);
        x.tell("club;member");
        x.minute(3);
        x.put(0, LeechClub.NONE);
        check.due("something is salted", x.salt(0), 3);
        check.due("club club", x.club(), 2);
        check.due("minute", x.count(3), 0);
        check.due("basin", x.count(4), 0);
        check.due("facts", x.count(0), 0);
        check.due("members", x.count(1), 1);
        check.due("leeches", x.count(2), 0);
        check.due("slates stay", x.count(8), 1);
    }
}
