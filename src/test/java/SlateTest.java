/** Promises 28 to 33: slates. */
public final class SlateTest {
    private static final Check check = new Check("SlateTest");

    public static void main(String[] args) {
        slate();
        chalkInts();
        chalkLongs();
        chalkParts();
        chalkRefused();
        showRefused();
        reckon();
        reckonBounds();
        reckonRefused();
        copy();
        copyParts();
        copyRefused();
        drop();
        check.end();
    }

    private static CountedClub withSlates() {
        CountedClub x = new CountedClub();
        x.slate(0, 0, 3);
        x.slate(1, 1, 2);
        x.slate(2, 2, 4);
        return x;
    }

    private static void slate() {
        CountedClub x = new CountedClub();
        for (int sort = 0; sort < 3; sort++) {
            check.due("slate of 10", x.slate(sort, sort, 10), 10);
            check.due("its last place", x.show(sort, sort, 9, 0), sort == 2 ? LeechClub.EMPTY : 0);
            check.due("beyond it", x.show(sort, sort, 10, 0), LeechClub.INDEX);
        }
        check.due("slate of none", x.slate(3, 0, 0), 0);
        check.due("it is there", x.count(8), 4);
        check.due("it has no place", x.show(3, 0, 0, 0), LeechClub.INDEX);
        x.chalk(0, 0, 2, 55, 0);
        x.chalk(2, 2, 0, 1, 2);
        check.due("a new row", x.slate(0, 0, 3), 3);
        check.due("its place is new", x.show(0, 0, 2, 0), 0);
        check.due("a new row of another sort", x.slate(0, 2, 1), 1);
        check.due("nothing is there", x.show(0, 2, 0, 0), LeechClub.EMPTY);
        check.due("a new row of parts", x.slate(2, 2, 2), 2);
        check.due("nothing is there", x.show(2, 2, 0, 0), LeechClub.EMPTY);
        check.due("four are there", x.count(8), 4);
        check.unchanged(x, "slate(4, 3, 11)", LeechClub.UNKNOWN, () -> x.slate(4, 3, 11));
        check.unchanged(x, "slate(-1, 0, 1)", LeechClub.UNKNOWN, () -> x.slate(-1, 0, 1));
        check.unchanged(x, "slate(0, 3, -1)", LeechClub.OUTSIDE, () -> x.slate(0, 3, -1));
        check.unchanged(x, "slate(0, -1, 1)", LeechClub.OUTSIDE, () -> x.slate(0, -1, 1));
        check.unchanged(x, "slate(0, 0, 11)", LeechClub.OUTSIDE, () -> x.slate(0, 0, 11));
        check.unchanged(x, "slate(0, 0, -1)", LeechClub.SIZE, () -> x.slate(0, 0, -1));
        check.unchanged(x, "slate(0, 0, least)", LeechClub.SIZE, () -> x.slate(0, 0, Integer.MIN_VALUE));
    }

    private static void chalkInts() {
        CountedClub x = withSlates();
        int[] a = {5, -5, 1000003, 1000002, -1000003, Integer.MAX_VALUE, Integer.MIN_VALUE, 0, -1000004};
        int[] due = {5, 2000005, 0, 1000002, 2000000, 477206, 2477207, 0, 2000001};
        for (int i = 0; i < a.length; i++) {
            check.due("chalk(" + a[i] + ")", x.chalk(0, 0, 2, a[i], 99), 1);
            check.due("show of " + a[i], x.show(0, 0, 2, 0), due[i]);
            check.due("show of " + a[i] + ", what 1", x.show(0, 0, 2, 1), due[i]);
        }
        check.due("the other places", x.show(0, 0, 0, 0), 0);
    }

    private static void chalkLongs() {
        CountedClub x = withSlates();
        int[][] ab = {{0, 7}, {0, -7}, {1, 0}, {1, 5}, {-1, 999999999}, {Integer.MAX_VALUE, Integer.MAX_VALUE},
            {Integer.MIN_VALUE, Integer.MIN_VALUE}, {1, -1000000000}};
        for (int[] pair : ab) {
            check.due("chalk of a long", x.chalk(1, 1, 1, pair[0], pair[1]), 1);
            java.math.BigInteger v = java.math.BigInteger.valueOf(pair[0])
                    .multiply(java.math.BigInteger.valueOf(1000000000)).add(java.math.BigInteger.valueOf(pair[1]));
            int rest = v.abs().mod(java.math.BigInteger.valueOf(1000003)).intValue();
            check.due("show of " + v, x.show(1, 1, 1, 0), v.signum() < 0 ? rest + 2000000 : rest);
        }
        check.due("the other place", x.show(1, 1, 0, 0), 0);
    }

    private static void part(CountedClub x, int a, int b, int above, int below) {
        check.due("chalk of " + a + " by " + b, x.chalk(2, 2, 3, a, b), 1);
        check.due("above", x.show(2, 2, 3, 0), above + 3000000);
        check.due("below", x.show(2, 2, 3, 1), below);
    }

    private static void chalkParts() {
        CountedClub x = withSlates();
        part(x, 6, 4, 3, 2);
        part(x, -6, 4, -3, 2);
        part(x, 0, 1000000, 0, 1);
        part(x, 1000000, 1000000, 1, 1);
        part(x, -1000000, 999999, -1000000, 999999);
        part(x, 1000000, 1, 1000000, 1);
        part(x, 1, 1000000, 1, 1000000);
        part(x, 17, 51, 1, 3);
    }

    private static void chalkRefused() {
        CountedClub x = withSlates();
        check.unchanged(x, "chalk(4, ..)", LeechClub.UNKNOWN, () -> x.chalk(4, 3, 0, 0, 0));
        check.unchanged(x, "chalk(-1, ..)", LeechClub.UNKNOWN, () -> x.chalk(-1, 0, 0, 0, 0));
        check.unchanged(x, "sort 3", LeechClub.OUTSIDE, () -> x.chalk(3, 3, 0, 0, 0));
        check.unchanged(x, "sort -1", LeechClub.OUTSIDE, () -> x.chalk(0, -1, 0, 0, 0));
        check.unchanged(x, "1 by 0", LeechClub.OUTSIDE, () -> x.chalk(2, 2, 0, 1, 0));
        check.unchanged(x, "1 by -1", LeechClub.OUTSIDE, () -> x.chalk(2, 2, 0, 1, -1));
        check.unchanged(x, "1 by 1000001", LeechClub.OUTSIDE, () -> x.chalk(2, 2, 0, 1, 1000001));
        check.unchanged(x, "1000001 by 1", LeechClub.OUTSIDE, () -> x.chalk(2, 2, 0, 1000001, 1));
        check.unchanged(x, "-1000001 by 1", LeechClub.OUTSIDE, () -> x.chalk(2, 2, 0, -1000001, 1));
        check.unchanged(x, "2000000 by 2", LeechClub.OUTSIDE, () -> x.chalk(2, 2, 0, 2000000, 2));
        check.unchanged(x, "no part, missing", LeechClub.OUTSIDE, () -> x.chalk(3, 2, 0, 1, 0));
        check.unchanged(x, "missing", LeechClub.NULL, () -> x.chalk(3, 0, 10, 1, 0));
        check.unchanged(x, "ints as longs", LeechClub.CAST, () -> x.chalk(0, 1, 10, 1, 0));
        check.unchanged(x, "longs as parts", LeechClub.CAST, () -> x.chalk(1, 2, 0, 1, 1));
        check.unchanged(x, "parts as ints", LeechClub.CAST, () -> x.chalk(2, 0, 0, 1, 1));
        check.unchanged(x, "place 3 of 3", LeechClub.INDEX, () -> x.chalk(0, 0, 3, 1, 0));
        check.unchanged(x, "place -1", LeechClub.INDEX, () -> x.chalk(0, 0, -1, 1, 0));
    }

    private static void showRefused() {
        CountedClub x = withSlates();
        check.unchanged(x, "show(4, ..)", LeechClub.UNKNOWN, () -> x.show(4, 3, 0, 0));
        check.unchanged(x, "show(-1, ..)", LeechClub.UNKNOWN, () -> x.show(-1, 0, 0, 0));
        check.unchanged(x, "sort 3", LeechClub.OUTSIDE, () -> x.show(3, 3, 0, 0));
        check.unchanged(x, "sort -1", LeechClub.OUTSIDE, () -> x.show(3, -1, 0, 0));
        check.unchanged(x, "what 2", LeechClub.OUTSIDE, () -> x.show(3, 0, 0, 2));
        check.unchanged(x, "what -1", LeechClub.OUTSIDE, () -> x.show(0, 0, 0, -1));
        check.unchanged(x, "missing", LeechClub.NULL, () -> x.show(3, 0, 99, 0));
        check.unchanged(x, "longs as ints", LeechClub.CAST, () -> x.show(1, 0, 99, 0));
        check.unchanged(x, "place 2 of 2", LeechClub.INDEX, () -> x.show(1, 1, 2, 0));
        check.unchanged(x, "place -1", LeechClub.INDEX, () -> x.show(2, 2, -1, 0));
        check.unchanged(x, "nothing there", LeechClub.EMPTY, () -> x.show(2, 2, 0, 0));
        check.unchanged(x, "nothing there, below", LeechClub.EMPTY, () -> x.show(2, 2, 3, 1));
    }

    private static void reckon(int how, int[] j, int[] k, int above, int below) {
        CountedClub x = withSlates();
        x.chalk(2, 2, 0, j[0], j[1]);
        x.chalk(2, 2, 1, k[0], k[1]);
        String call = "reckon " + how + " of " + j[0] + " by " + j[1] + " and " + k[0] + " by " + k[1];
        check.due(call, x.reckon(2, 3, 0, 1, how), 1);
        check.due(call + ", above", x.show(2, 2, 3, 0), above + 3000000);
        check.due(call + ", below", x.show(2, 2, 3, 1), below);
        check.due(call + ", j is as it was", x.reckon(2, 0, 0, 1, how), 1);
        check.due(call + ", into j", x.show(2, 2, 0, 0), above + 3000000);
    }

    private static void reckon() {
        int[] half = {1, 2};
        int[] third = {1, 3};
        int[] quarter = {-1, 4};
        reckon(0, half, third, 5, 6);
        reckon(1, half, third, 1, 6);
        reckon(1, third, half, -1, 6);
        reckon(2, half, third, 1, 6);
        reckon(0, half, quarter, 1, 4);
        reckon(1, half, quarter, 3, 4);
        reckon(2, half, quarter, -1, 8);
        reckon(1, half, half, 0, 1);
        reckon(2, new int[] {2, 3}, new int[] {3, 2}, 1, 1);
        reckon(2, new int[] {0, 1}, new int[] {3, 1000000}, 0, 1);
    }

    private static void reckonBounds() {
        int[] most = {1000000, 1};
        int[] one = {1, 1};
        int[] least = {1, 1000000};
        reckon(0, new int[] {999999, 1}, one, 1000000, 1);
        reckon(2, least, most, 1, 1);
        reckon(2, most, one, 1000000, 1);
        reckon(0, new int[] {500000, 1}, new int[] {500000, 1}, 1000000, 1);
        reckon(0, new int[] {1, 1000000}, new int[] {1, 1000000}, 1, 500000);
        reckon(1, new int[] {-999999, 1}, one, -1000000, 1);
        CountedClub x = withSlates();
        x.chalk(2, 2, 0, 1000000, 1);
        x.chalk(2, 2, 1, 1, 1);
        x.chalk(2, 2, 2, 1, 999999);
        check.unchanged(x, "above too large", LeechClub.NOT, () -> x.reckon(2, 3, 0, 1, 0));
        check.unchanged(x, "above too large, times", LeechClub.NOT, () -> x.reckon(2, 0, 0, 0, 2));
        check.unchanged(x, "below too large", LeechClub.NOT, () -> x.reckon(2, 2, 2, 2, 2));
        check.due("-1000000", x.chalk(2, 2, 1, -1000000, 1), 1);
        check.unchanged(x, "above too small", LeechClub.NOT, () -> x.reckon(2, 3, 1, 0, 1));
    }

    private static void reckonRefused() {
        CountedClub x = withSlates();
        x.chalk(2, 2, 0, 1000000, 1);
        check.unchanged(x, "reckon(4, ..)", LeechClub.UNKNOWN, () -> x.reckon(4, 0, 0, 0, 3));
        check.unchanged(x, "reckon(-1, ..)", LeechClub.UNKNOWN, () -> x.reckon(-1, 0, 0, 0, 0));
        check.unchanged(x, "how 3", LeechClub.OUTSIDE, () -> x.reckon(3, 0, 0, 0, 3));
        check.unchanged(x, "how -1", LeechClub.OUTSIDE, () -> x.reckon(2, 0, 0, 0, -1));
        check.unchanged(x, "missing", LeechClub.NULL, () -> x.reckon(3, 9, 9, 9, 0));
        check.unchanged(x, "ints", LeechClub.CAST, () -> x.reckon(0, 9, 9, 9, 0));
        check.unchanged(x, "longs", LeechClub.CAST, () -> x.reckon(1, 0, 0, 0, 0));
        check.unchanged(x, "j 4", LeechClub.INDEX, () -> x.reckon(2, 0, 4, 1, 0));
        check.unchanged(x, "j -1", LeechClub.INDEX, () -> x.reckon(2, 0, -1, 0, 0));
        check.unchanged(x, "k 4, j empty", LeechClub.INDEX, () -> x.reckon(2, 0, 1, 4, 0));
        check.unchanged(x, "i 4, j empty", LeechClub.INDEX, () -> x.reckon(2, 4, 1, 0, 0));
        check.unchanged(x, "i -1, would be no part", LeechClub.INDEX, () -> x.reckon(2, -1, 0, 0, 2));
        check.unchanged(x, "j empty", LeechClub.EMPTY, () -> x.reckon(2, 0, 1, 0, 0));
        check.unchanged(x, "k empty", LeechClub.EMPTY, () -> x.reckon(2, 0, 0, 1, 2));
    }

    private static void fill(CountedClub x, int slate, int n) {
        x.slate(slate, 0, n);
        for (int i = 0; i < n; i++) {
            x.chalk(slate, 0, i, i + 1, 0);
        }
    }

    private static void shown(CountedClub x, String call, int slate, int... due) {
        for (int i = 0; i < due.length; i++) {
            check.due(call + ", place " + i, x.show(slate, 0, i, 0), due[i]);
        }
    }

    private static void copy() {
        CountedClub x = new CountedClub();
        fill(x, 0, 5);
        x.slate(1, 0, 3);
        check.due("copy", x.copy(0, 2, 1, 1, 2), 2);
        shown(x, "copy", 1, 0, 3, 4);
        shown(x, "copy leaves", 0, 1, 2, 3, 4, 5);
        check.due("copy upwards", x.copy(0, 0, 0, 1, 4), 4);
        shown(x, "copy upwards", 0, 1, 1, 2, 3, 4);
        fill(x, 0, 5);
        check.due("copy downwards", x.copy(0, 1, 0, 0, 4), 4);
        shown(x, "copy downwards", 0, 2, 3, 4, 5, 5);
        check.due("copy of none, at both ends", x.copy(0, 5, 1, 3, 0), 0);
        check.due("copy of all", x.copy(1, 0, 0, 2, 3), 3);
        x.slate(2, 1, 2);
        x.slate(3, 1, 2);
        x.chalk(2, 1, 0, 3, 4);
        check.due("copy of longs", x.copy(2, 0, 3, 1, 1), 1);
        check.due("a long came", x.show(3, 1, 1, 0), (int) (3000000004L % 1000003));
    }

    private static void copyParts() {
        CountedClub x = new CountedClub();
        x.slate(0, 2, 3);
        x.slate(1, 2, 3);
        x.chalk(0, 2, 0, 1, 2);
        x.chalk(1, 2, 1, 5, 7);
        check.due("copy of parts", x.copy(0, 0, 1, 0, 2), 2);
        check.due("a part came", x.show(1, 2, 0, 1), 2);
        check.due("nothing came, too", x.show(1, 2, 1, 0), LeechClub.EMPTY);
        x.reckon(1, 0, 0, 0, 0);
        check.due("reckoned there", x.show(1, 2, 0, 1), 1);
        check.due("but not here", x.show(0, 2, 0, 1), 2);
        x.chalk(0, 2, 0, 1, 9);
        check.due("chalked here, not there", x.show(1, 2, 0, 1), 1);
    }

    private static void copyRefused() {
        CountedClub x = withSlates();
        x.slate(1, 1, 3);
        check.unchanged(x, "from 4", LeechClub.UNKNOWN, () -> x.copy(4, 0, 3, 0, 0));
        check.unchanged(x, "to -1", LeechClub.UNKNOWN, () -> x.copy(3, 0, -1, 0, 0));
        check.unchanged(x, "from a missing one", LeechClub.NULL, () -> x.copy(3, 9, 0, 0, 1));
        check.unchanged(x, "to a missing one", LeechClub.NULL, () -> x.copy(0, 9, 3, 0, 1));
        check.unchanged(x, "unlike sorts", LeechClub.STORE, () -> x.copy(0, 9, 1, 0, 1));
        check.unchanged(x, "unlike sorts, none", LeechClub.STORE, () -> x.copy(0, 0, 2, 0, 0));
        check.unchanged(x, "fewer than none", LeechClub.INDEX, () -> x.copy(0, 1, 0, 1, -1));
        check.unchanged(x, "i -1", LeechClub.INDEX, () -> x.copy(0, -1, 0, 0, 1));
        check.unchanged(x, "j -1", LeechClub.INDEX, () -> x.copy(0, 0, 0, -1, 1));
        check.unchanged(x, "beyond the end of from", LeechClub.INDEX, () -> x.copy(0, 2, 0, 0, 2));
        check.unchanged(x, "beyond the end of to", LeechClub.INDEX, () -> x.copy(0, 0, 0, 2, 2));
        check.unchanged(x, "none beyond the end", LeechClub.INDEX, () -> x.copy(0, 4, 0, 0, 0));
        check.unchanged(x, "greatest i and n", LeechClub.INDEX,
                () -> x.copy(0, Integer.MAX_VALUE, 0, Integer.MAX_VALUE, Integer.MAX_VALUE));
        check.unchanged(x, "greatest n", LeechClub.INDEX, () -> x.copy(0, 1, 0, 1, Integer.MAX_VALUE));
    }

    private static void drop() {
        CountedClub x = withSlates();
        x.slate(3, 0, 0);
        check.due("drop(0)", x.drop(0), 3);
        check.due("drop(3), of none", x.drop(3), 0);
        check.due("two are there", x.count(8), 2);
        check.unchanged(x, "drop(0) again", LeechClub.NULL, () -> x.drop(0));
        check.unchanged(x, "drop(4)", LeechClub.UNKNOWN, () -> x.drop(4));
        check.unchanged(x, "drop(-1)", LeechClub.UNKNOWN, () -> x.drop(-1));
        check.due("missing", x.show(0, 0, 0, 0), LeechClub.NULL);
        check.due("a new one", x.slate(0, 0, 2), 2);
        check.due("three are there", x.count(8), 3);
    }
}
