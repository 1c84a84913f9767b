/** Clubs that several tests begin with. */
final class Clubs {
    static final String TWELVE_FACTS = "fact;fact;fact;fact;fact;fact;fact;fact;fact;fact;fact;fact";
    /** Each leans on the one before. */
    static final String CHAIN = "fact;fact a;fact b;fact c;fact d;fact e;fact f;fact g;fact h;fact i;fact j;fact k";

    private Clubs() {
    }

    /** Something of everything that a call could change: 4 facts, 3 members, 4 leeches, slates of each sort, slate 3 missing. */
    static CountedClub rich() {
        CountedClub x = CountedClub.of("fact;fact a;fact;fact bc;member d;member b;member;common;striped;bishop;muff;on 0 0;on 2 1");
        addSlates(x);
        x.minute(1);
        x.keep(1);
        x.put(0, LeechClub.NONE);
        x.salt(0);
        x.put(1, 0);
        x.read(2, 1);
        x.keep(0);
        x.minute(1);
        x.put(3, 2);
        x.seen(0, 1, 1, 1);
        x.seen(2, 2, 0, 0);
        x.tell("fact c;member d");
        return x;
    }

    /** Slate 0: ints 5, 0, 0; slate 1: longs 0, -1; slate 2: parts 1 by 2, 1000000 by 1, nothing, 3 by 4. */
    static void addSlates(CountedClub x) {
        x.slate(0, 0, 3);
        x.chalk(0, 0, 0, 5, 0);
        x.slate(1, 1, 2);
        x.chalk(1, 1, 1, 0, -1);
        x.slate(2, 2, 4);
        x.chalk(2, 2, 0, 1, 2);
        x.chalk(2, 2, 1, 1000000, 1);
        x.chalk(2, 2, 3, 3, 4);
    }

    /** As many facts, members and leeches as there can be: each member knows all 12, leech 0 is on 0, leech 1 on 1. */
    static CountedClub full() {
        CountedClub x = CountedClub.of(TWELVE_FACTS);
        x.tell("member abcdefghijkl;member abcdefghijkl;member abcdefghijkl;member abcdefghijkl;"
                + "common;striped;greedy;bishop;muff;on 0 0;on 1 1");
        if (x.club() != 11) {
            throw new IllegalStateException("the full club's text has a fault");
        }
        return x;
    }
}
