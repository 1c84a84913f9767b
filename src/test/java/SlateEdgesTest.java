/** Each sentence of the terms, and of promises 28 to 33, that names a boundary of slates. */
public final class SlateEdgesTest {
    private static final Check check = new Check("SlateEdgesTest");
    private static final int MOST = 1000000;

    public static void main(String[] args) {
        fourSlates();
        noneToTenPlaces();
        newRows();
        intRests();
        longRests();
        restsWhateverWhat();
        partsAsTold();
        lowestTerms();
        chalkTakenAs();
        reckonAtTheEnds();
        reckonBeyond();
        reckonInPlace();
        reckonFinds();
        copyNone();
        copyToTheEnds();
        copyAsIfTakenAhead();
        copyOfEach();
        holdersAreTheirOwn();
        copyFinds();
        drop();
        check.end();
    }

    private static CountedClub withSlates() {
        CountedClub x = new CountedClub();
        Clubs.addSlates(x);
        return x;
    }

    private static void fourSlates() {
        check.says("SLATES 0 .. 3 are missing (at first)");
        CountedClub x = new CountedClub();
        for (int s = 0; s < 4; s++) {
            int slate = s;
            for (int sort = 0; sort < 3; sort++) {
                int takenAs = sort;
                check.unchanged(x, "show(" + s + ", " + sort + ", 0, 0)", LeechClub.NULL, () -> x.show(slate, takenAs, 0, 0));
                check.unchanged(x, "chalk(" + s + ", " + sort + ", 0, 1, 1)", LeechClub.NULL, () -> x.chalk(slate, takenAs, 0, 1, 1));
            }
            check.unchanged(x, "reckon(" + s + ", ..)", LeechClub.NULL, () -> x.reckon(slate, 0, 0, 0, 0));
            check.unchanged(x, "copy(" + s + ", ..)", LeechClub.NULL, () -> x.copy(slate, 0, slate, 0, 0));
            check.unchanged(x, "drop(" + s + ")", LeechClub.NULL, () -> x.drop(slate));
        }
        for (int s = 0; s < 4; s++) {
            check.due("slate(" + s + ", ..)", x.slate(s, 0, 1), 1);
            check.due("count(8)", x.count(8), s + 1);
        }
        check.due("slate(3, ..) anew", x.slate(3, 2, 1), 1);
        check.due("count(8)", x.count(8), 4);
        check.unchanged(x, "slate(4, 0, 1)", LeechClub.UNKNOWN, () -> x.slate(4, 0, 1));
        check.unchanged(x, "slate(-1, 0, 1)", LeechClub.UNKNOWN, () -> x.slate(-1, 0, 1));
    }

    private static void noneToTenPlaces() {
        check.says("of 0 to 10 places", "OUTSIDE (SORT, n above 10); SIZE");
        for (int sort = 0; sort < 3; sort++) {
            for (int n = 0; n <= 10; n++) {
                int takenAs = sort;
                int places = n;
                CountedClub x = new CountedClub();
                check.due("slate(3, " + sort + ", " + n + ")", x.slate(3, sort, n), n);
                check.due("count(8)", x.count(8), 1);
                check.unchanged(x, "place " + n, LeechClub.INDEX, () -> x.show(3, takenAs, places, 0));
                check.unchanged(x, "place " + n, LeechClub.INDEX, () -> x.chalk(3, takenAs, places, 1, 1));
                check.unchanged(x, "place -1", LeechClub.INDEX, () -> x.show(3, takenAs, -1, 0));
                check.unchanged(x, "place -1", LeechClub.INDEX, () -> x.chalk(3, takenAs, -1, 1, 1));
                if (n > 0) {
                    int due = sort == 2 ? LeechClub.EMPTY : 0;
                    check.unchanged(x, "place " + (n - 1), due, () -> x.show(3, takenAs, places - 1, 0));
                    check.unchanged(x, "place 0", due, () -> x.show(3, takenAs, 0, 1));
                    check.due("chalk at " + (n - 1), x.chalk(3, sort, n - 1, 7, 1), 1);
                }
                check.due("drop", x.drop(3), n);
            }
        }
        CountedClub x = withSlates();
        check.unchanged(x, "n 11", LeechClub.OUTSIDE, () -> x.slate(0, 0, 11));
        check.unchanged(x, "n -1", LeechClub.SIZE, () -> x.slate(0, 0, -1));
        check.unchanged(x, "n -1, missing", LeechClub.SIZE, () -> x.slate(3, 2, -1));
        check.unchanged(x, "sort 3", LeechClub.OUTSIDE, () -> x.slate(0, 3, 1));
        check.unchanged(x, "sort -1", LeechClub.OUTSIDE, () -> x.slate(0, -1, 1));
    }

    private static void newRows() {
        check.says("A SLATE is a new row of a SORT", "(0, PARTS of nothing)");
        for (int sort = 0; sort < 3; sort++) {
            int other = (sort + 1) % 3;
            CountedClub x = new CountedClub();
            for (int was = 0; was < 3; was++) {
                x.slate(1, was, 10);
                for (int i = 0; i < 10; i++) {
                    x.chalk(1, was, i, 3, 2);
                }
                x.slate(1, sort, 4);
                x.slate(1, sort, 10);
                for (int i = 0; i < 10; i++) {
                    check.due("show of a new place " + i, x.show(1, sort, i, 0), sort == 2 ? LeechClub.EMPTY : 0);
                }
                x.drop(1);
                x.slate(1, sort, 10);
                check.due("show of a place behind drop", x.show(1, sort, 9, 0), sort == 2 ? LeechClub.EMPTY : 0);
                check.unchanged(x, "of another SORT", LeechClub.CAST, () -> x.show(1, other, 0, 0));
            }
        }
    }

    private static void intRests() {
        check.says("of ints its rest by 1000003 (of one below 0 the rest of how far it is below 0, and 2000000 more)");
        int[][] due = {{0, 0}, {1, 1}, {-1, 2000001}, {1000002, 1000002}, {1000003, 0}, {1000004, 1}, {-1000002, 3000002},
            {-1000003, 2000000}, {-1000004, 2000001}, {2000006, 0}, {Integer.MAX_VALUE, 477206}, {Integer.MAX_VALUE - 1, 477205},
            {Integer.MIN_VALUE, 2477207}, {Integer.MIN_VALUE + 1, 2477206}};
        CountedClub x = withSlates();
        for (int[] pair : due) {
            check.due("chalk of " + pair[0], x.chalk(0, 0, 2, pair[0], Integer.MIN_VALUE), 1);
            check.due("show of " + pair[0], x.show(0, 0, 2, 0), pair[1]);
        }
        check.due("its neighbour is as it was", x.show(0, 0, 1, 0), 0);
    }

    private static void longRests() {
        check.says("a times 1000000000 and b more (longs)", "of longs likewise");
        int[][] told = {{0, 0}, {0, 1000003}, {0, -1000003}, {0, -1}, {1, -1000000000}, {1, -1000000001},
            {-1, 1000000001}, {1, 0}, {-1, 0}, {Integer.MAX_VALUE, Integer.MAX_VALUE}, {Integer.MAX_VALUE, Integer.MIN_VALUE},
            {Integer.MIN_VALUE, Integer.MAX_VALUE}, {Integer.MIN_VALUE, Integer.MIN_VALUE}, {3, 4}};
        int[] due = {0, 0, 2000000, 2000001, 0, 2000001, 1, 997003, 2997003, 863502, 909092, 2906093, 2860503, 991007};
        for (int i = 0; i < told.length; i++) {
            CountedClub x = withSlates();
            check.due("chalk of " + told[i][0] + ", " + told[i][1], x.chalk(1, 1, 0, told[i][0], told[i][1]), 1);
            check.due("show of " + told[i][0] + ", " + told[i][1], x.show(1, 1, 0, 0), due[i]);
        }
    }

    private static void restsWhateverWhat() {
        check.says("OUTSIDE (SORT, what)");
        CountedClub x = withSlates();
        check.unchanged(x, "an int, what 1", 5, () -> x.show(0, 0, 0, 1));
        check.unchanged(x, "a long, what 1", 2000001, () -> x.show(1, 1, 1, 1));
        for (int s = 0; s < 3; s++) {
            int slate = s;
            check.unchanged(x, "what 2", LeechClub.OUTSIDE, () -> x.show(slate, slate, 0, 2));
            check.unchanged(x, "what -1", LeechClub.OUTSIDE, () -> x.show(slate, slate, 0, -1));
        }
        check.unchanged(x, "SORT 3", LeechClub.OUTSIDE, () -> x.show(0, 3, 0, 0));
        check.unchanged(x, "SORT -1", LeechClub.OUTSIDE, () -> x.show(0, -1, 0, 0));
    }

    private static void part(int above, int below, int heldAbove, int heldBelow) {
        CountedClub x = withSlates();
        String call = above + " by " + below;
        check.due("chalk of " + call, x.chalk(2, 2, 2, above, below), 1);
        check.due("above of " + call, x.show(2, 2, 2, 0), heldAbove + 3000000);
        check.due("below of " + call, x.show(2, 2, 2, 1), heldBelow);
    }

    private static void noPart(int above, int below) {
        CountedClub x = withSlates();
        check.unchanged(x, "chalk of " + above + " by " + below, LeechClub.OUTSIDE, () -> x.chalk(2, 2, 0, above, below));
    }

    private static void partsAsTold() {
        check.says("A PART is told above, below, -1000000 .. 1000000 by 1 .. 1000000");
        part(MOST, 1, MOST, 1);
        part(-MOST, 1, -MOST, 1);
        part(1, MOST, 1, MOST);
        part(-1, MOST, -1, MOST);
        part(1, 1, 1, 1);
        part(MOST, 999999, MOST, 999999);
        part(-MOST, 999999, -MOST, 999999);
        part(999999, MOST, 999999, MOST);
        noPart(MOST + 1, 1);
        noPart(-MOST - 1, 1);
        noPart(MOST + 2, 2);
        noPart(0, 0);
        noPart(1, 0);
        noPart(1, -1);
        noPart(-1, -1);
        noPart(1, MOST + 1);
        noPart(2, MOST + 2);
        noPart(MOST + 1, MOST + 1);
    }

    private static void lowestTerms() {
        check.says("it is held in lowest terms (0 as 0 by 1)");
        part(0, 1, 0, 1);
        part(0, MOST, 0, 1);
        part(0, 7, 0, 1);
        part(MOST, MOST, 1, 1);
        part(-MOST, MOST, -1, 1);
        part(6, 4, 3, 2);
        part(-6, 4, -3, 2);
        part(4, 6, 2, 3);
        part(-999999, 3, -333333, 1);
        part(524288, 1000000, 8192, 15625);
    }

    private static void chalkTakenAs() {
        check.says("Place i of a SLATE, taken as of a SORT", "CAST -12 (it is of another SORT)");
        CountedClub x = withSlates();
        for (int s = 0; s < 3; s++) {
            for (int sort = 0; sort < 3; sort++) {
                int slate = s;
                int takenAs = sort;
                if (sort != s) {
                    check.unchanged(x, "chalk " + s + " as " + sort, LeechClub.CAST, () -> x.chalk(slate, takenAs, 0, 1, 1));
                    check.unchanged(x, "show " + s + " as " + sort, LeechClub.CAST, () -> x.show(slate, takenAs, 0, 0));
                } else {
                    check.due("chalk " + s + " as " + sort, x.chalk(s, sort, 0, 1, 1), 1);
                }
            }
        }
        check.due("ints take no b", x.show(0, 0, 0, 0), 1);
        check.due("longs do", x.show(1, 1, 0, 0), 1000000001 % 1000003);
        check.due("what is no PART may be an int", x.chalk(0, 0, 0, 2 * MOST, 0), 1);
        check.due("what is no PART may be a long", x.chalk(1, 1, 0, 2 * MOST, -1), 1);
    }

    private static void reckon(int how, int[] j, int[] k, int above, int below) {
        CountedClub x = new CountedClub();
        x.slate(3, 2, 10);
        x.chalk(3, 2, 0, j[0], j[1]);
        x.chalk(3, 2, 8, k[0], k[1]);
        String call = "reckon " + how + " of " + j[0] + " by " + j[1] + ", " + k[0] + " by " + k[1];
        if (below == 0) {
            check.unchanged(x, call, LeechClub.NOT, () -> x.reckon(3, 9, 0, 8, how));
            check.unchanged(x, call + ", into j", LeechClub.NOT, () -> x.reckon(3, 0, 0, 8, how));
            return;
        }
        check.due(call, x.reckon(3, 9, 0, 8, how), 1);
        check.due(call + ", above", x.show(3, 2, 9, 0), above + 3000000);
        check.due(call + ", below", x.show(3, 2, 9, 1), below);
    }

    private static void reckonAtTheEnds() {
        check.says("places j and k together, (1) j less k, (2) j times k",
                "-1000000 .. 1000000 by 1 .. 1000000; it is held in lowest terms");
        int[] one = {1, 1};
        int[] minus = {-1, 1};
        int[] most = {MOST, 1};
        int[] least = {-MOST, 1};
        int[] small = {1, MOST};
        reckon(0, new int[] {MOST - 1, 1}, one, MOST, 1);
        reckon(0, new int[] {1 - MOST, 1}, minus, -MOST, 1);
        reckon(1, new int[] {MOST - 1, 1}, minus, MOST, 1);
        reckon(1, new int[] {1 - MOST, 1}, one, -MOST, 1);
        reckon(0, most, least, 0, 1);
        reckon(1, most, most, 0, 1);
        reckon(2, most, minus, -MOST, 1);
        reckon(2, least, minus, MOST, 1);
        reckon(2, most, small, 1, 1);
        reckon(2, small, one, 1, MOST);
        reckon(2, new int[] {0, 1}, most, 0, 1);
        reckon(2, new int[] {1, 1000}, new int[] {1, 1000}, 1, MOST);
        reckon(2, new int[] {1000, 999}, new int[] {1000, 999}, MOST, 998001);
        reckon(0, new int[] {1, 1000}, new int[] {1, 999}, 1999, 999000);
        reckon(0, small, small, 1, 500000);
        reckon(1, small, small, 0, 1);
        reckon(0, new int[] {999999, MOST}, small, 1, 1);
        reckon(1, new int[] {1, 2}, new int[] {1, 3}, 1, 6);
        reckon(1, new int[] {1, 3}, new int[] {1, 2}, -1, 6);
        reckon(0, new int[] {MOST, 999999}, new int[] {-1, 999999}, 1, 1);
        reckon(2, new int[] {999999, MOST}, new int[] {MOST, 999999}, 1, 1);
    }

    private static void reckonBeyond() {
        check.says("NOT (behind what the machine finds): it would be no PART as told");
        int[] one = {1, 1};
        int[] most = {MOST, 1};
        int[] least = {-MOST, 1};
        int[] small = {1, MOST};
        reckon(0, most, one, 0, 0);
        reckon(1, least, one, 0, 0);
        reckon(0, most, most, 0, 0);
        reckon(1, least, most, 0, 0);
        reckon(2, most, most, 0, 0);
        reckon(2, least, least, 0, 0);
        reckon(2, most, least, 0, 0);
        reckon(2, small, small, 0, 0);
        reckon(2, new int[] {1001, 1}, new int[] {1000, 1}, 0, 0);
        reckon(2, new int[] {1, 1001}, new int[] {1, 1000}, 0, 0);
        reckon(0, new int[] {1, 1001}, new int[] {1, 1000}, 0, 0);
        reckon(0, one, new int[] {999999, MOST}, 0, 0);
        reckon(0, small, new int[] {1, 999999}, 0, 0);
        reckon(2, new int[] {65536, 1}, new int[] {65536, 1}, 0, 0);
        reckon(2, new int[] {1, 65536}, new int[] {1, 65536}, 0, 0);
        reckon(0, new int[] {1, 65536}, new int[] {1, 65537}, 0, 0);
        reckon(2, new int[] {999983, 999979}, new int[] {999961, 999959}, 0, 0);
    }

    private static void reckonInPlace() {
        check.says("Of a SLATE of PARTS place i becomes (with how 0) places j and k together");
        CountedClub x = withSlates();
        check.due("i is nothing yet", x.reckon(2, 2, 0, 3, 0), 1);
        check.due("above", x.show(2, 2, 2, 0), 3000005);
        check.due("below", x.show(2, 2, 2, 1), 4);
        check.due("i is j", x.reckon(2, 0, 0, 3, 2), 1);
        check.due("above", x.show(2, 2, 0, 0), 3000003);
        check.due("below", x.show(2, 2, 0, 1), 8);
        check.due("i is k", x.reckon(2, 3, 2, 3, 1), 1);
        check.due("above", x.show(2, 2, 3, 0), 3000001);
        check.due("below", x.show(2, 2, 3, 1), 2);
        check.due("all are one", x.reckon(2, 3, 3, 3, 2), 1);
        check.due("below", x.show(2, 2, 3, 1), 4);
        check.due("all are one", x.reckon(2, 3, 3, 3, 1), 1);
        check.due("above", x.show(2, 2, 3, 0), 3000000);
        check.due("below", x.show(2, 2, 3, 1), 1);
        check.due("j is as it was", x.show(2, 2, 2, 1), 4);
    }

    private static void reckonFinds() {
        check.says("UNKNOWN; OUTSIDE (how); NULL; CAST; INDEX (of j, k, i in this order); EMPTY (j, k)");
        CountedClub x = withSlates();
        int[] out = {-1, 4};
        for (int place : out) {
            check.unchanged(x, "i " + place, LeechClub.INDEX, () -> x.reckon(2, place, 0, 3, 0));
            check.unchanged(x, "j " + place, LeechClub.INDEX, () -> x.reckon(2, 0, place, 3, 0));
            check.unchanged(x, "k " + place, LeechClub.INDEX, () -> x.reckon(2, 0, 0, place, 0));
        }
        for (int how = 0; how <= 2; how++) {
            int reckoned = how;
            check.unchanged(x, "j is nothing", LeechClub.EMPTY, () -> x.reckon(2, 0, 2, 0, reckoned));
            check.unchanged(x, "k is nothing", LeechClub.EMPTY, () -> x.reckon(2, 0, 0, 2, reckoned));
            check.unchanged(x, "both are", LeechClub.EMPTY, () -> x.reckon(2, 0, 2, 2, reckoned));
            check.unchanged(x, "ints", LeechClub.CAST, () -> x.reckon(0, 0, 0, 0, reckoned));
            check.unchanged(x, "longs", LeechClub.CAST, () -> x.reckon(1, 0, 0, 0, reckoned));
        }
        check.unchanged(x, "how 3", LeechClub.OUTSIDE, () -> x.reckon(2, 0, 0, 0, 3));
        check.unchanged(x, "how -1", LeechClub.OUTSIDE, () -> x.reckon(2, 0, 0, 0, -1));
        CountedClub none = new CountedClub();
        none.slate(0, 2, 0);
        check.unchanged(none, "no places", LeechClub.INDEX, () -> none.reckon(0, 0, 0, 0, 0));
    }

    private static void copyNone() {
        check.says("n places of a SLATE from i on come to another one (or itself) from j on",
                "or beyond an end, or fewer than none");
        CountedClub x = withSlates();
        x.slate(3, 0, 0);
        check.unchanged(x, "none of none", 0, () -> x.copy(3, 0, 3, 0, 0));
        check.unchanged(x, "none to none", 0, () -> x.copy(0, 3, 3, 0, 0));
        check.unchanged(x, "none at the ends", 0, () -> x.copy(0, 3, 0, 3, 0));
        check.unchanged(x, "none at the beginning", 0, () -> x.copy(0, 0, 0, 0, 0));
        check.unchanged(x, "none beyond the end", LeechClub.INDEX, () -> x.copy(0, 4, 0, 0, 0));
        check.unchanged(x, "none to beyond the end", LeechClub.INDEX, () -> x.copy(0, 0, 0, 4, 0));
        check.unchanged(x, "none of none, beyond the end", LeechClub.INDEX, () -> x.copy(3, 1, 0, 0, 0));
        check.unchanged(x, "none ahead of the beginning", LeechClub.INDEX, () -> x.copy(0, -1, 0, 0, 0));
        check.unchanged(x, "none to ahead of the beginning", LeechClub.INDEX, () -> x.copy(0, 0, 0, -1, 0));
        check.unchanged(x, "one of none", LeechClub.INDEX, () -> x.copy(3, 0, 0, 0, 1));
        check.unchanged(x, "one to none", LeechClub.INDEX, () -> x.copy(0, 0, 3, 0, 1));
        check.unchanged(x, "fewer than none", LeechClub.INDEX, () -> x.copy(0, 1, 0, 1, -1));
        check.unchanged(x, "fewer than none of none", LeechClub.INDEX, () -> x.copy(3, 0, 3, 0, -1));
    }

    private static void copyToTheEnds() {
        check.says("INDEX -14 (a place that there is not, or beyond an end, or fewer than none)");
        CountedClub x = numbered();
        check.due("all", x.again().copy(0, 0, 1, 0, 10), 10);
        check.unchanged(x, "one more than all", LeechClub.INDEX, () -> x.copy(0, 0, 1, 0, 11));
        check.due("the last one", x.again().copy(0, 9, 1, 9, 1), 1);
        check.unchanged(x, "beyond the last one", LeechClub.INDEX, () -> x.copy(0, 10, 1, 9, 1));
        check.unchanged(x, "to beyond the last one", LeechClub.INDEX, () -> x.copy(0, 9, 1, 10, 1));
        check.unchanged(x, "from beyond, at its end", LeechClub.INDEX, () -> x.copy(0, 5, 1, 0, 6));
        check.due("from 5 to the end", x.again().copy(0, 5, 1, 0, 5), 5);
        check.unchanged(x, "to beyond, at its end", LeechClub.INDEX, () -> x.copy(0, 0, 1, 5, 6));
        check.due("to 5 up to the end", x.again().copy(0, 0, 1, 5, 5), 5);
        x.slate(2, 0, 3);
        check.unchanged(x, "more than the lesser has", LeechClub.INDEX, () -> x.copy(0, 0, 2, 0, 4));
        check.unchanged(x, "more than the lesser has", LeechClub.INDEX, () -> x.copy(2, 0, 0, 0, 4));
        check.due("as many as the lesser has", x.copy(0, 7, 2, 0, 3), 3);
        shown(x, 2, 108, 109, 110);
    }

    /** Slate 0: 101 .. 110, slate 1: ten times 0. */
    private static CountedClub numbered() {
        CountedClub x = new CountedClub();
        x.slate(0, 0, 10);
        x.slate(1, 0, 10);
        for (int i = 0; i < 10; i++) {
            x.chalk(0, 0, i, 101 + i, 0);
        }
        return x;
    }

    private static void shown(CountedClub x, int slate, int... due) {
        for (int i = 0; i < due.length; i++) {
            check.due("place " + i, x.show(slate, 0, i, 0), due[i]);
        }
    }

    private static void copyAsIfTakenAhead() {
        check.says("as if all was taken ahead");
        CountedClub up = numbered();
        check.due("one up", up.copy(0, 0, 0, 1, 9), 9);
        shown(up, 0, 101, 101, 102, 103, 104, 105, 106, 107, 108, 109);
        CountedClub down = numbered();
        check.due("one down", down.copy(0, 1, 0, 0, 9), 9);
        shown(down, 0, 102, 103, 104, 105, 106, 107, 108, 109, 110, 110);
        CountedClub some = numbered();
        check.due("three up", some.copy(0, 2, 0, 5, 4), 4);
        shown(some, 0, 101, 102, 103, 104, 105, 103, 104, 105, 106, 110);
        CountedClub back = numbered();
        check.due("three down", back.copy(0, 5, 0, 2, 4), 4);
        shown(back, 0, 101, 102, 106, 107, 108, 109, 107, 108, 109, 110);
        CountedClub same = numbered();
        check.unchanged(same, "to where it is", 10, () -> same.copy(0, 0, 0, 0, 10));
        CountedClub other = numbered();
        check.due("to another", other.copy(0, 3, 1, 6, 2), 2);
        shown(other, 1, 0, 0, 0, 0, 0, 0, 104, 105, 0, 0);
        shown(other, 0, 101, 102, 103, 104, 105, 106, 107, 108, 109, 110);
    }

    private static void copyOfEach() {
        check.says("rows of a SORT, 0 ints, 1 longs, 2 PARTS");
        CountedClub x = withSlates();
        x.slate(3, 1, 2);
        check.due("longs", x.copy(1, 1, 3, 0, 1), 1);
        check.due("a long", x.show(3, 1, 0, 0), 2000001);
        x.slate(3, 2, 4);
        x.chalk(3, 2, 1, 7, 8);
        check.due("PARTS, and nothing", x.copy(2, 1, 3, 0, 3), 3);
        check.due("a PART", x.show(3, 2, 0, 0), 4000000);
        check.due("nothing came where a PART was", x.show(3, 2, 1, 0), LeechClub.EMPTY);
        check.due("a PART", x.show(3, 2, 2, 1), 4);
        check.due("nothing is there yet", x.show(3, 2, 3, 0), LeechClub.EMPTY);
        check.due("up", x.copy(2, 0, 2, 1, 3), 3);
        check.due("above", x.show(2, 2, 1, 0), 3000001);
        check.due("below", x.show(2, 2, 1, 1), 2);
        check.due("above", x.show(2, 2, 2, 0), 4000000);
        check.due("nothing", x.show(2, 2, 3, 0), LeechClub.EMPTY);
    }

    private static void holdersAreTheirOwn() {
        check.says("slates of ints, longs, parts in their own holders");
        CountedClub x = withSlates();
        x.slate(3, 2, 4);
        x.copy(2, 0, 3, 0, 4);
        x.copy(2, 0, 2, 2, 1);
        x.chalk(2, 2, 0, 9, 10);
        check.due("a copy in another SLATE stays", x.show(3, 2, 0, 1), 2);
        check.due("a copy in the same stays", x.show(2, 2, 2, 1), 2);
        x.reckon(2, 2, 2, 2, 2);
        check.due("reckoned where it is", x.show(2, 2, 2, 1), 4);
        check.due("a copy in another SLATE stays", x.show(3, 2, 0, 1), 2);
        x.reckon(3, 0, 3, 3, 0);
        check.due("reckoned there", x.show(3, 2, 0, 1), 2);
        check.due("reckoned there", x.show(3, 2, 0, 0), 3000003);
        check.due("not here", x.show(2, 2, 0, 0), 3000009);
        x.drop(2);
        check.due("what it was copied from is missing", x.show(3, 2, 3, 1), 4);
    }

    private static void copyFinds() {
        check.says("UNKNOWN; NULL (either); STORE; INDEX");
        CountedClub x = withSlates();
        check.unchanged(x, "from 4", LeechClub.UNKNOWN, () -> x.copy(4, 0, 0, 0, 0));
        check.unchanged(x, "from -1", LeechClub.UNKNOWN, () -> x.copy(-1, 0, 0, 0, 0));
        check.unchanged(x, "to 4", LeechClub.UNKNOWN, () -> x.copy(0, 0, 4, 0, 0));
        check.unchanged(x, "to -1", LeechClub.UNKNOWN, () -> x.copy(0, 0, -1, 0, 0));
        check.unchanged(x, "from a missing one", LeechClub.NULL, () -> x.copy(3, 0, 0, 0, 0));
        check.unchanged(x, "to a missing one", LeechClub.NULL, () -> x.copy(0, 0, 3, 0, 0));
        for (int from = 0; from < 3; from++) {
            for (int to = 0; to < 3; to++) {
                int source = from;
                int target = to;
                if (from != to) {
                    check.unchanged(x, "from " + from + " to " + to, LeechClub.STORE, () -> x.copy(source, 0, target, 0, 1));
                }
            }
        }
    }

    private static void drop() {
        check.says("A SLATE is missing from now on: how many places it had. UNKNOWN; NULL");
        CountedClub x = withSlates();
        x.slate(3, 0, 10);
        int[] places = {3, 2, 4, 10};
        for (int s = 3; s >= 0; s--) {
            int slate = s;
            check.due("drop(" + s + ")", x.drop(s), places[s]);
            check.due("count(8)", x.count(8), s);
            check.unchanged(x, "drop(" + s + ") again", LeechClub.NULL, () -> x.drop(slate));
        }
        x.slate(0, 0, 0);
        check.due("count(8)", x.count(8), 1);
        check.due("drop of one of no places", x.drop(0), 0);
        check.due("count(8)", x.count(8), 0);
        check.unchanged(x, "drop(4)", LeechClub.UNKNOWN, () -> x.drop(4));
        check.unchanged(x, "drop(-1)", LeechClub.UNKNOWN, () -> x.drop(-1));
    }
}
