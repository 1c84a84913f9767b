/** Of several refusals that fit the first is due: UNKNOWN, OUTSIDE, NOT, FULL, then NULL, CAST, STORE, INDEX, EMPTY, SIZE. */
public final class RefusalOrderTest {
    private static final Check check = new Check("RefusalOrderTest");
    private static final int NONE = LeechClub.NONE, UNKNOWN = LeechClub.UNKNOWN, OUTSIDE = LeechClub.OUTSIDE, NOT = LeechClub.NOT;
    private static final int FULL = LeechClub.FULL, NULL = LeechClub.NULL, CAST = LeechClub.CAST, STORE = LeechClub.STORE;
    private static final int INDEX = LeechClub.INDEX, EMPTY = LeechClub.EMPTY;

    public static void main(String[] args) {
        check.says("the first of these that fits");
        outsideAheadOfFull();
        unknownAheadOfOutside();
        outsideAheadOfNot();
        unknownAheadOfNot();
        unknownOutsideFullOfSeen();
        slate();
        chalk();
        show();
        reckon();
        copy();
        check.end();
    }

    private static void outsideAheadOfFull() {
        CountedClub x = new CountedClub();
        x.tell(" ".repeat(200));
        check.unchanged(x, "write: OUTSIDE, FULL", OUTSIDE, () -> x.write(256));
        check.unchanged(x, "write: OUTSIDE, FULL", OUTSIDE, () -> x.write(-1));
        check.unchanged(x, "write: FULL", FULL, () -> x.write(255));
        CountedClub y = CountedClub.of("fact;member a;muff");
        for (int i = 0; i < 83; i++) {
            y.minute(12);
        }
        check.unchanged(y, "minute: OUTSIDE, FULL", OUTSIDE, () -> y.minute(13));
        check.unchanged(y, "minute: OUTSIDE, FULL", OUTSIDE, () -> y.minute(1000));
        check.unchanged(y, "minute: FULL", FULL, () -> y.minute(4));
    }

    private static void unknownAheadOfOutside() {
        CountedClub x = Clubs.rich();
        check.unchanged(x, "fact: UNKNOWN, OUTSIDE", UNKNOWN, () -> x.fact(4, 4));
        check.unchanged(x, "member: UNKNOWN, OUTSIDE", UNKNOWN, () -> x.member(3, 4));
        check.unchanged(x, "leech: UNKNOWN, OUTSIDE", UNKNOWN, () -> x.leech(4, 3));
        check.unchanged(x, "as: UNKNOWN, OUTSIDE", UNKNOWN, () -> x.as(4, 6));
        check.unchanged(x, "ahead: UNKNOWN, OUTSIDE", UNKNOWN, () -> x.ahead(3, 41));
        check.unchanged(x, "soonest: UNKNOWN member, OUTSIDE", UNKNOWN, () -> x.soonest(3, 0, 0, 2));
        check.unchanged(x, "soonest: UNKNOWN bits to lose, OUTSIDE", UNKNOWN, () -> x.soonest(0, 16, 0, 2));
        check.unchanged(x, "soonest: UNKNOWN bits to keep, OUTSIDE", UNKNOWN, () -> x.soonest(0, 0, 16, -1));
        check.unchanged(x, "most: UNKNOWN, OUTSIDE c", UNKNOWN, () -> x.most(13, 0, 4));
        check.unchanged(x, "most: UNKNOWN, OUTSIDE n", UNKNOWN, () -> x.most(0, 11, 4));
        check.unchanged(x, "most: OUTSIDE, the leech is known", OUTSIDE, () -> x.most(13, 11, 3));
        check.unchanged(x, "sound: UNKNOWN, OUTSIDE q", UNKNOWN, () -> x.sound(4, 6, 0));
        check.unchanged(x, "sound: UNKNOWN, OUTSIDE part", UNKNOWN, () -> x.sound(4, 0, 2));
        check.unchanged(x, "ask: UNKNOWN, OUTSIDE", UNKNOWN, () -> x.ask(3, 7));
        check.unchanged(x, "ask: UNKNOWN, OUTSIDE", UNKNOWN, () -> x.ask(3, 0));
    }

    private static void outsideAheadOfNot() {
        CountedClub x = Clubs.rich();
        check.unchanged(x, "as: OUTSIDE, NOT", OUTSIDE, () -> x.as(0, 6));
        check.unchanged(x, "as: OUTSIDE, NOT", OUTSIDE, () -> x.as(0, -1));
        check.unchanged(x, "as: NOT", NOT, () -> x.as(0, 5));
    }

    private static void unknownAheadOfNot() {
        CountedClub x = Clubs.full();
        check.unchanged(x, "as: UNKNOWN, none such", UNKNOWN, () -> x.as(5, 4));
        check.unchanged(x, "put: UNKNOWN, no leech is off there", UNKNOWN, () -> x.put(5, NONE));
        check.unchanged(x, "put: UNKNOWN leech and member", UNKNOWN, () -> x.put(5, 4));
        check.unchanged(x, "put: UNKNOWN member of one that is ON", UNKNOWN, () -> x.put(0, 4));
        check.unchanged(x, "salt: UNKNOWN", UNKNOWN, () -> x.salt(5));
        check.unchanged(x, "read: UNKNOWN member, who would KNOW it", UNKNOWN, () -> x.read(4, 0));
        check.unchanged(x, "read: UNKNOWN fact of one who KNOWS all", UNKNOWN, () -> x.read(0, 12));
        check.unchanged(x, "back: UNKNOWN, nothing was kept", UNKNOWN, () -> x.back(2));
        check.unchanged(x, "back: UNKNOWN, nothing was kept", UNKNOWN, () -> x.back(-1));
        check.unchanged(x, "back: NOT", NOT, () -> x.back(1));
    }

    private static void unknownOutsideFullOfSeen() {
        CountedClub x = Clubs.rich();
        seenNotFull(x);
        for (int i = 3; i <= 6; i++) {
            x.seen(1, i, 0, 1);
        }
        seenNotFull(x);
        check.unchanged(x, "seen: UNKNOWN, FULL", UNKNOWN, () -> x.seen(3, 1, 0, 0));
        check.unchanged(x, "seen: UNKNOWN, FULL", UNKNOWN, () -> x.seen(0, 1, 4, 0));
        check.unchanged(x, "seen: OUTSIDE n, FULL", OUTSIDE, () -> x.seen(0, 7, 0, 0));
        check.unchanged(x, "seen: OUTSIDE knew, FULL", OUTSIDE, () -> x.seen(0, 1, 0, 2));
        check.unchanged(x, "seen: FULL", FULL, () -> x.seen(0, 1, 0, 0));
    }

    private static void seenNotFull(CountedClub x) {
        check.unchanged(x, "seen: UNKNOWN member, OUTSIDE n", UNKNOWN, () -> x.seen(3, 7, 0, 0));
        check.unchanged(x, "seen: UNKNOWN member, OUTSIDE knew", UNKNOWN, () -> x.seen(-1, 1, 0, 2));
        check.unchanged(x, "seen: UNKNOWN fact, OUTSIDE n", UNKNOWN, () -> x.seen(0, 0, 4, 0));
        check.unchanged(x, "seen: UNKNOWN fact, OUTSIDE knew", UNKNOWN, () -> x.seen(0, 1, -1, -1));
    }

    private static void slate() {
        CountedClub x = Clubs.rich();
        check.unchanged(x, "slate: UNKNOWN, OUTSIDE sort", UNKNOWN, () -> x.slate(4, 3, 1));
        check.unchanged(x, "slate: UNKNOWN, OUTSIDE n", UNKNOWN, () -> x.slate(4, 0, 11));
        check.unchanged(x, "slate: UNKNOWN, SIZE", UNKNOWN, () -> x.slate(-1, 0, -1));
        check.unchanged(x, "slate: OUTSIDE sort, SIZE", OUTSIDE, () -> x.slate(0, 3, -1));
        check.unchanged(x, "slate: OUTSIDE sort, SIZE, missing", OUTSIDE, () -> x.slate(3, -1, -1));
    }

    private static void chalk() {
        CountedClub x = Clubs.rich();
        check.unchanged(x, "chalk: UNKNOWN, OUTSIDE sort", UNKNOWN, () -> x.chalk(4, 3, 0, 1, 1));
        check.unchanged(x, "chalk: UNKNOWN, OUTSIDE part", UNKNOWN, () -> x.chalk(4, 2, 0, 1, 0));
        check.unchanged(x, "chalk: UNKNOWN, INDEX", UNKNOWN, () -> x.chalk(-1, 0, -1, 1, 1));
        check.unchanged(x, "chalk: OUTSIDE sort, NULL", OUTSIDE, () -> x.chalk(3, 3, 0, 1, 1));
        check.unchanged(x, "chalk: OUTSIDE sort, INDEX", OUTSIDE, () -> x.chalk(0, 3, 3, 1, 1));
        check.unchanged(x, "chalk: OUTSIDE part, NULL", OUTSIDE, () -> x.chalk(3, 2, 0, 1, 0));
        check.unchanged(x, "chalk: OUTSIDE part, CAST", OUTSIDE, () -> x.chalk(0, 2, 0, 1, 0));
        check.unchanged(x, "chalk: OUTSIDE part, CAST, INDEX", OUTSIDE, () -> x.chalk(1, 2, 2, 1000001, 1));
        check.unchanged(x, "chalk: OUTSIDE part, INDEX", OUTSIDE, () -> x.chalk(2, 2, 4, 1, 1000001));
        check.unchanged(x, "chalk: NULL, INDEX", NULL, () -> x.chalk(3, 0, -1, 1, 1));
        check.unchanged(x, "chalk: CAST, INDEX", CAST, () -> x.chalk(0, 1, 3, 1, 1));
        check.unchanged(x, "chalk: CAST, INDEX, no part", CAST, () -> x.chalk(2, 0, 4, 1, 0));
        check.unchanged(x, "chalk: INDEX", INDEX, () -> x.chalk(2, 2, 4, 1, 1));
        check.unchanged(x, "chalk: INDEX, no part, of ints", INDEX, () -> x.chalk(0, 0, 3, 1, 0));
    }

    private static void show() {
        CountedClub x = Clubs.rich();
        check.unchanged(x, "show: UNKNOWN, OUTSIDE sort", UNKNOWN, () -> x.show(4, 3, 0, 0));
        check.unchanged(x, "show: UNKNOWN, OUTSIDE what", UNKNOWN, () -> x.show(4, 0, 0, 2));
        check.unchanged(x, "show: UNKNOWN, INDEX", UNKNOWN, () -> x.show(-1, 0, -1, 0));
        check.unchanged(x, "show: OUTSIDE sort, NULL", OUTSIDE, () -> x.show(3, 3, 0, 0));
        check.unchanged(x, "show: OUTSIDE what, NULL", OUTSIDE, () -> x.show(3, 0, 0, 2));
        check.unchanged(x, "show: OUTSIDE what, CAST", OUTSIDE, () -> x.show(0, 1, 0, 2));
        check.unchanged(x, "show: OUTSIDE what, INDEX", OUTSIDE, () -> x.show(0, 0, 3, -1));
        check.unchanged(x, "show: OUTSIDE what, EMPTY", OUTSIDE, () -> x.show(2, 2, 2, 2));
        check.unchanged(x, "show: NULL, INDEX", NULL, () -> x.show(3, 0, -1, 0));
        check.unchanged(x, "show: CAST, INDEX", CAST, () -> x.show(0, 1, 3, 0));
        check.unchanged(x, "show: CAST, EMPTY", CAST, () -> x.show(2, 0, 2, 0));
        check.unchanged(x, "show: INDEX, what 1", INDEX, () -> x.show(2, 2, 4, 1));
        check.unchanged(x, "show: EMPTY", EMPTY, () -> x.show(2, 2, 2, 1));
    }

    private static void reckon() {
        CountedClub x = Clubs.rich();
        check.unchanged(x, "reckon: UNKNOWN, OUTSIDE", UNKNOWN, () -> x.reckon(4, 0, 0, 0, 3));
        check.unchanged(x, "reckon: UNKNOWN, INDEX", UNKNOWN, () -> x.reckon(-1, -1, -1, -1, 0));
        check.unchanged(x, "reckon: OUTSIDE, NULL", OUTSIDE, () -> x.reckon(3, 0, 0, 0, 3));
        check.unchanged(x, "reckon: OUTSIDE, CAST", OUTSIDE, () -> x.reckon(0, 0, 0, 0, 3));
        check.unchanged(x, "reckon: OUTSIDE, INDEX", OUTSIDE, () -> x.reckon(2, 4, 0, 0, -1));
        check.unchanged(x, "reckon: OUTSIDE, EMPTY", OUTSIDE, () -> x.reckon(2, 0, 2, 2, 3));
        check.unchanged(x, "reckon: OUTSIDE, NOT", OUTSIDE, () -> x.reckon(2, 0, 1, 1, 3));
        check.unchanged(x, "reckon: NULL, INDEX", NULL, () -> x.reckon(3, 4, 4, 4, 0));
        check.unchanged(x, "reckon: CAST, INDEX", CAST, () -> x.reckon(1, 4, 4, 4, 0));
        check.unchanged(x, "reckon: INDEX of k, EMPTY j", INDEX, () -> x.reckon(2, 0, 2, 4, 0));
        check.unchanged(x, "reckon: INDEX of i, EMPTY j", INDEX, () -> x.reckon(2, 4, 2, 0, 0));
        check.unchanged(x, "reckon: INDEX of i, EMPTY k", INDEX, () -> x.reckon(2, -1, 0, 2, 0));
        check.unchanged(x, "reckon: INDEX of j, EMPTY k", INDEX, () -> x.reckon(2, 0, -1, 2, 0));
        check.unchanged(x, "reckon: INDEX of i, NOT", INDEX, () -> x.reckon(2, 4, 1, 1, 2));
        check.unchanged(x, "reckon: INDEX of i, NOT", INDEX, () -> x.reckon(2, -1, 1, 1, 0));
        check.unchanged(x, "reckon: EMPTY, with one that is too great", EMPTY, () -> x.reckon(2, 0, 1, 2, 2));
        check.unchanged(x, "reckon: NOT", NOT, () -> x.reckon(2, 2, 1, 1, 2));
    }

    private static void copy() {
        CountedClub x = Clubs.rich();
        check.unchanged(x, "copy: UNKNOWN, NULL", UNKNOWN, () -> x.copy(4, 0, 3, 0, 1));
        check.unchanged(x, "copy: NULL, UNKNOWN", UNKNOWN, () -> x.copy(3, 0, 4, 0, 1));
        check.unchanged(x, "copy: UNKNOWN, INDEX", UNKNOWN, () -> x.copy(0, 9, -1, 9, -1));
        check.unchanged(x, "copy: NULL from, INDEX", NULL, () -> x.copy(3, 0, 0, 3, 1));
        check.unchanged(x, "copy: NULL to, INDEX", NULL, () -> x.copy(0, 3, 3, 0, 1));
        check.unchanged(x, "copy: NULL from, fewer than none", NULL, () -> x.copy(3, 0, 2, 0, -1));
        check.unchanged(x, "copy: NULL from, of another SORT perhaps", NULL, () -> x.copy(3, 0, 2, 0, 0));
        check.unchanged(x, "copy: STORE, INDEX", STORE, () -> x.copy(0, 4, 1, 0, 1));
        check.unchanged(x, "copy: STORE, INDEX", STORE, () -> x.copy(1, 0, 2, 9, 1));
        check.unchanged(x, "copy: STORE, fewer than none", STORE, () -> x.copy(2, 0, 0, 0, -1));
        check.unchanged(x, "copy: STORE, none", STORE, () -> x.copy(2, 0, 1, 0, 0));
        check.unchanged(x, "copy: INDEX, EMPTY", INDEX, () -> x.copy(2, 2, 2, 0, 3));
    }
}
