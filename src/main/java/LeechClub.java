/** A reading-room's club: facts that lean on one another, members who know them, leeches that take them. */
public final class LeechClub {
    public static final int NONE = -1, UNKNOWN = -2, OUTSIDE = -3, NOT = -4, FULL = -5, NULL = -11, CAST = -12, STORE = -13, INDEX = -14, EMPTY = -15, SIZE = -16;

    private static final int MOST_FACTS = 12, MOST_MEMBERS = 4, MOST_LEECHES = 5;
    private static final int MOST_LETTERS = 200, MOST_CLAUSES = 20;
    private static final int LAST_MINUTE = 999, MOST_AT_ONCE = 12, MOST_UNDONE = 8, KEPT = 2;
    private static final int FORETOLD = 40, SOONEST = 20, PLANNED = 10;
    private static final int MOST_SEEN = 6, SEEN_MINUTES = 6;
    private static final int SLATES = 4, PLACES = 10, SORTS = 3, PARTS = 2, PART_END = 1000000;

    private static final int KINDS = 5, COMMON = 0, STRIPED = 1, GREEDY = 2, BISHOP = 3, MUFF = 4;
    private static final int[] TAKES = {1, 2, 3, 1, 1};
    private static final int[] HAS_ROOM = {3, 6, 9, 2, 99};
    /** For LEECH, COMMON, STRIPED, GREEDY, BISHOP, MUFF: the kinds (bits) that are such. */
    private static final int[] SUCH = {0b11111, 0b00111, 0b00110, 0b00100, 0b11000, 0b10000};
    /** For each length of an order, what its first figure stands for. */
    private static final int[] FIRST_FIGURE = {0, 1, 10, 100};

    private final Text text = new Text();
    private final Facts facts = new Facts();
    private final Room told = new Room();
    private final Room now = new Room();
    private final Room trial = new Room();
    private final Room[] past = new Room[MOST_UNDONE];
    private int undoable;
    private final Room[] kept = new Room[KEPT];
    private int keptBits;
    private final Sightings sightings = new Sightings();
    private final Plan plan = new Plan();
    private final Slate[] slates = new Slate[SLATES];
    private final Part reckoned = new Part();

    public LeechClub() {
        for (int i = 0; i < MOST_UNDONE; i++) {
            past[i] = new Room();
        }
        for (int k = 0; k < KEPT; k++) {
            kept[k] = new Room();
        }
        for (int s = 0; s < SLATES; s++) {
            slates[s] = new Slate();
        }
    }

    // ---- what is told

    public int write(int letter) {
        if (letter < 0 || letter > 255) {
            return OUTSIDE;
        }
        if (text.length >= MOST_LETTERS) {
            return FULL;
        }
        text.letters[text.length] = letter;
        text.length++;
        return text.length;
    }

    public int erase() {
        int had = text.length;
        text.length = 0;
        return had;
    }

    public int fault() {
        return text.parse(facts, told);
    }

    public int club() {
        if (text.parse(facts, told) != NONE) {
            return NOT;
        }
        facts.setAs(text.facts);
        told.setAs(text.room);
        now.setAs(told);
        text.length = 0;
        undoable = 0;
        keptBits = 0;
        sightings.size = 0;
        return text.clauses;
    }

    public int fact(int fact, int what) {
        if (!facts.hasFact(fact)) {
            return UNKNOWN;
        }
        switch (what) {
            case 0:
                return facts.leans[fact];
            case 1:
                return facts.all[fact];
            case 2:
                return bitsWith(now.knows, now.members, fact);
            case 3:
                return bitsWith(now.has, now.leeches, fact);
            default:
                return OUTSIDE;
        }
    }

    public int member(int member, int what) {
        if (!now.hasMember(member)) {
            return UNKNOWN;
        }
        switch (what) {
            case 0:
                return now.knows[member];
            case 1:
                return now.leechesOn(member);
            case 2:
                setClear(member);
                return (int) reckoned.above;
            case 3:
                setClear(member);
                return (int) reckoned.below;
            default:
                return OUTSIDE;
        }
    }

    public int leech(int leech, int what) {
        if (!now.hasLeech(leech)) {
            return UNKNOWN;
        }
        switch (what) {
            case 0:
                return now.kind[leech];
            case 1:
                return now.on[leech];
            case 2:
                return now.has[leech];
            default:
                return OUTSIDE;
        }
    }

    public int as(int leech, int kind) {
        if (!now.hasLeech(leech)) {
            return UNKNOWN;
        }
        if (kind < 0 || kind >= SUCH.length) {
            return OUTSIDE;
        }
        int own = now.kind[leech];
        return hasBit(SUCH[kind], own) ? HAS_ROOM[own] : NOT;
    }

    // ---- what is done

    public int minute(int n) {
        if (n < 1 || n > MOST_AT_ONCE) {
            return OUTSIDE;
        }
        if (now.minute + n > LAST_MINUTE) {
            return FULL;
        }
        remember();
        now.pass(facts, n);
        return now.minute;
    }

    public int put(int leech, int member) {
        if (!now.hasLeech(leech) || member != NONE && !now.hasMember(member)) {
            return UNKNOWN;
        }
        int was = now.on[leech];
        if (was == member) {
            return NOT;
        }
        remember();
        now.on[leech] = member;
        return was;
    }

    public int salt(int leech) {
        if (!now.hasLeech(leech)) {
            return UNKNOWN;
        }
        if (now.on[leech] != NONE) {
            return NOT;
        }
        remember();
        now.basin |= now.has[leech];
        now.has[leech] = 0;
        return now.basin;
    }

    public int read(int member, int fact) {
        if (!now.hasMember(member) || !facts.hasFact(fact)) {
            return UNKNOWN;
        }
        int knew = now.knows[member];
        if (hasBit(knew, fact)) {
            return NOT;
        }
        remember();
        now.knows[member] = knew | facts.all[fact];
        return Integer.bitCount(facts.all[fact] & ~knew);
    }

    public int undo() {
        if (undoable == 0) {
            return NOT;
        }
        undoable--;
        now.setAs(past[undoable]);
        return undoable;
    }

    public int keep(int k) {
        if (k < 0 || k >= KEPT) {
            return UNKNOWN;
        }
        kept[k].setAs(now);
        keptBits |= 1 << k;
        return now.minute;
    }

    public int back(int k) {
        if (k < 0 || k >= KEPT) {
            return UNKNOWN;
        }
        if (!hasBit(keptBits, k)) {
            return NOT;
        }
        now.setAs(kept[k]);
        undoable = 0;
        return now.minute;
    }

    // ---- foretold

    public int ahead(int member, int n) {
        if (!now.hasMember(member)) {
            return UNKNOWN;
        }
        if (n < 0 || n > FORETOLD) {
            return OUTSIDE;
        }
        trial.setAs(now);
        trial.pass(facts, n);
        return trial.knows[member];
    }

    public int gone(int member, int fact) {
        if (!now.hasMember(member) || !facts.hasFact(fact)) {
            return UNKNOWN;
        }
        trial.setAs(now);
        for (int n = 0; n <= FORETOLD; n++) {
            if (!hasBit(trial.knows[member], fact)) {
                return n;
            }
            trial.pass(facts, 1);
        }
        return NONE;
    }

    public int boy() {
        int could = 0;
        for (int f = 0; f < facts.size; f++) {
            if ((facts.all[f] & ~now.basin) == 0) {
                could |= 1 << f;
            }
        }
        return could;
    }

    public int soonest(int member, int lose, int keep, int what) {
        if (!now.hasMember(member) || !facts.hasBits(lose) || !facts.hasBits(keep)) {
            return UNKNOWN;
        }
        if (what < 0 || what > 1) {
            return OUTSIDE;
        }
        int fewest = NONE;
        int first = NONE;
        for (int kind = 0; kind < KINDS; kind++) {
            int minutes = minutesAlone(now.knows[member], kind, lose, keep);
            if (minutes != NONE && (fewest == NONE || minutes < fewest)) {
                fewest = minutes;
                first = kind;
            }
        }
        return what == 0 ? fewest : first;
    }

    public int order(int member, int lose, int keep) {
        if (!now.hasMember(member) || !facts.hasBits(lose) || !facts.hasBits(keep)) {
            return UNKNOWN;
        }
        for (int length = 0; length < FIRST_FIGURE.length; length++) {
            int row = rowOfKinds(now.knows[member], lose, keep, FIRST_FIGURE[length]);
            if (row != NONE) {
                return row;
            }
        }
        return NONE;
    }

    public int most(int c, int n, int leech) {
        if (leech != NONE && !now.hasLeech(leech)) {
            return UNKNOWN;
        }
        if (c < 0 || c > MOST_FACTS || n < 0 || n > PLANNED) {
            return OUTSIDE;
        }
        plan.begin(now, c);
        for (int m = 0; m < now.members; m++) {
            foretellPuts(m, n);
        }
        plan.choose();
        return leech == NONE ? plan.most : plan.best[leech];
    }

    public int sound(int fact, int q, int part) {
        if (!facts.hasFact(fact)) {
            return UNKNOWN;
        }
        if (q < 0 || q > 5 || part < 0 || part > 1) {
            return OUTSIDE;
        }
        long above = 1;
        long below = 1;
        for (int i = Integer.bitCount(facts.all[fact]); i > 0; i--) {
            above *= q;
            below *= 5;
        }
        reckoned.setLowest(above, below);
        return (int) (part == 0 ? reckoned.above : reckoned.below);
    }

    // ---- what was seen

    public int seen(int member, int n, int fact, int knew) {
        if (!now.hasMember(member) || !facts.hasFact(fact)) {
            return UNKNOWN;
        }
        if (n < 1 || n > SEEN_MINUTES || knew < 0 || knew > 1) {
            return OUTSIDE;
        }
        if (sightings.size >= MOST_SEEN) {
            return FULL;
        }
        sightings.add(member, n, fact, knew);
        return sightings.size;
    }

    public int forget() {
        int had = sightings.size;
        sightings.size = 0;
        return had;
    }

    public int kinds() {
        return kindsThatFit();
    }

    public int ask(int member, int n) {
        if (!now.hasMember(member)) {
            return UNKNOWN;
        }
        if (n < 1 || n > SEEN_MINUTES) {
            return OUTSIDE;
        }
        int fitting = kindsThatFit();
        int best = NONE;
        int least = Integer.bitCount(fitting);
        for (int f = 0; f < facts.size; f++) {
            int alike = greatestPart(now.knows[member], n, f, fitting);
            if (alike < least) {
                least = alike;
                best = f;
            }
        }
        return best;
    }

    // ---- slates

    public int slate(int slate, int sort, int n) {
        if (!isSlate(slate)) {
            return UNKNOWN;
        }
        if (!isSort(sort) || n > PLACES) {
            return OUTSIDE;
        }
        if (n < 0) {
            return SIZE;
        }
        slates[slate].begin(sort, n);
        return n;
    }

    public int chalk(int slate, int sort, int i, int a, int b) {
        if (!isSlate(slate)) {
            return UNKNOWN;
        }
        if (!isSort(sort) || sort == PARTS && !isPart(a, b)) {
            return OUTSIDE;
        }
        int found = slates[slate].findPlace(sort, i);
        if (found != 0) {
            return found;
        }
        slates[slate].setPlace(i, a, b, reckoned);
        return 1;
    }

    public int show(int slate, int sort, int i, int what) {
        if (!isSlate(slate)) {
            return UNKNOWN;
        }
        if (!isSort(sort) || what < 0 || what > 1) {
            return OUTSIDE;
        }
        int found = slates[slate].findPlace(sort, i);
        if (found != 0) {
            return found;
        }
        if (slates[slate].isNothingAt(i)) {
            return EMPTY;
        }
        return slates[slate].shown(i, what);
    }

    public int reckon(int slate, int i, int j, int k, int how) {
        if (!isSlate(slate)) {
            return UNKNOWN;
        }
        if (how < 0 || how > 2) {
            return OUTSIDE;
        }
        Slate row = slates[slate];
        int found = row.findParts(i, j, k);
        if (found != 0) {
            return found;
        }
        setReckoned(row, j, k, how);
        if (!isPart(reckoned.above, reckoned.below)) {
            return NOT;
        }
        row.setPart(i, reckoned);
        return 1;
    }

    public int copy(int from, int i, int to, int j, int n) {
        if (!isSlate(from) || !isSlate(to)) {
            return UNKNOWN;
        }
        Slate source = slates[from];
        Slate target = slates[to];
        if (source.isMissing() || target.isMissing()) {
            return NULL;
        }
        if (source.sort != target.sort) {
            return STORE;
        }
        if (!source.hasRow(i, n) || !target.hasRow(j, n)) {
            return INDEX;
        }
        source.copyTo(target, i, j, n);
        return n;
    }

    public int drop(int slate) {
        if (!isSlate(slate)) {
            return UNKNOWN;
        }
        if (slates[slate].isMissing()) {
            return NULL;
        }
        int had = slates[slate].size;
        slates[slate].setMissing();
        return had;
    }

    public int count(int what) {
        switch (what) {
            case 0:
                return facts.size;
            case 1:
                return now.members;
            case 2:
                return now.leeches;
            case 3:
                return now.minute;
            case 4:
                return now.basin;
            case 5:
                return now.leechesOn(NONE);
            case 6:
                return now.known();
            case 7:
                return sightings.size;
            case 8:
                return slatesThere();
            case 9:
                return undoable;
            case 10:
                return text.length;
            default:
                return OUTSIDE;
        }
    }

    // ---- behind the face

    private static boolean hasBit(int bits, int place) {
        return (bits >> place & 1) == 1;
    }

    /** Which of the first so many sets hold a fact. */
    private static int bitsWith(int[] sets, int size, int fact) {
        int bits = 0;
        for (int i = 0; i < size && i < sets.length; i++) {
            if (hasBit(sets[i], fact)) {
                bits |= 1 << i;
            }
        }
        return bits;
    }

    private void setClear(int member) {
        if (facts.size == 0) {
            reckoned.setLowest(1, 1);
        } else {
            reckoned.setLowest(facts.size - Integer.bitCount(now.knows[member]), facts.size);
        }
    }

    private void remember() {
        if (undoable == MOST_UNDONE) {
            Room oldest = past[0];
            for (int i = 1; i < MOST_UNDONE; i++) {
                past[i - 1] = past[i];
            }
            past[MOST_UNDONE - 1] = oldest;
            undoable--;
        }
        past[undoable].setAs(now);
        undoable++;
    }

    private static boolean isWanted(int knows, int lose, int keep) {
        return (knows & lose) == 0 && (keep & ~knows) == 0;
    }

    /** What one who knows a set knows after n minutes with one new leech on him and no other. */
    private int knownAfterAlone(int knows, int kind, int n) {
        trial.setAlone(knows, kind);
        trial.pass(facts, n);
        return trial.knows[0];
    }

    private int minutesAlone(int knows, int kind, int lose, int keep) {
        trial.setAlone(knows, kind);
        for (int n = 0; n <= SOONEST; n++) {
            if (isWanted(trial.knows[0], lose, keep)) {
                return n;
            }
            trial.pass(facts, 1);
        }
        return NONE;
    }

    /** The first row of kinds, its first one at that figure, that does what is wanted; figure 0 is behind the last. */
    private int rowOfKinds(int knows, int lose, int keep, int figure) {
        if (figure == 0) {
            return isWanted(knows, lose, keep) ? 0 : NONE;
        }
        for (int kind = 0; kind < KINDS; kind++) {
            int rest = rowOfKinds(knownAfterAlone(knows, kind, 1), lose, keep, figure / 10);
            if (rest != NONE) {
                return (kind + 1) * figure + rest;
            }
        }
        return NONE;
    }

    /** What a member knows after n minutes, for every set of the leeches that are off put on him. */
    private void foretellPuts(int member, int n) {
        int off = now.leechesOn(NONE);
        for (int puts = 0; puts < 1 << MOST_LEECHES; puts++) {
            if ((puts & ~off) == 0) {
                trial.setAs(now);
                trial.putAll(puts, member);
                trial.pass(facts, n);
                plan.after[member][puts] = trial.knows[member];
            }
        }
    }

    private int kindsThatFit() {
        int fitting = 0;
        for (int kind = 0; kind < KINDS; kind++) {
            if (fitsAll(kind)) {
                fitting |= 1 << kind;
            }
        }
        return fitting;
    }

    private boolean fitsAll(int kind) {
        for (int i = 0; i < sightings.size; i++) {
            int member = sightings.member[i];
            int knows = now.hasMember(member) ? now.knows[member] : 0;
            int after = knownAfterAlone(knows, kind, sightings.minutes[i]);
            if ((after >> sightings.fact[i] & 1) != sightings.knew[i]) {
                return false;
            }
        }
        return true;
    }

    /** Of the fitting kinds, the more of those that leave him a fact and those that do not. */
    private int greatestPart(int knows, int n, int fact, int fitting) {
        int leave = 0;
        for (int kind = 0; kind < KINDS; kind++) {
            if (hasBit(fitting, kind) && hasBit(knownAfterAlone(knows, kind, n), fact)) {
                leave++;
            }
        }
        return Math.max(leave, Integer.bitCount(fitting) - leave);
    }

    private static boolean isSlate(int slate) {
        return slate >= 0 && slate < SLATES;
    }

    private static boolean isSort(int sort) {
        return sort >= 0 && sort < SORTS;
    }

    private static boolean isPart(long above, long below) {
        return above >= -PART_END && above <= PART_END && below >= 1 && below <= PART_END;
    }

    private void setReckoned(Slate row, int j, int k, int how) {
        long above = row.value[j];
        long below = row.below[j];
        long otherAbove = row.value[k];
        long otherBelow = row.below[k];
        if (how == 0) {
            reckoned.setLowest(above * otherBelow + otherAbove * below, below * otherBelow);
        } else if (how == 1) {
            reckoned.setLowest(above * otherBelow - otherAbove * below, below * otherBelow);
        } else {
            reckoned.setLowest(above * otherAbove, below * otherBelow);
        }
    }

    private int slatesThere() {
        int there = 0;
        for (int s = 0; s < SLATES; s++) {
            if (!slates[s].isMissing()) {
                there++;
            }
        }
        return there;
    }

    /** The facts that are told, and what follows from how they lean. */
    private static final class Facts {
        int size;
        final int[] leans = new int[MOST_FACTS];
        final int[] all = new int[MOST_FACTS];
        /** Of each fact: it and what leans on it, through and through. */
        final int[] lostWith = new int[MOST_FACTS];

        void setAs(Facts other) {
            size = other.size;
            System.arraycopy(other.leans, 0, leans, 0, MOST_FACTS);
            System.arraycopy(other.all, 0, all, 0, MOST_FACTS);
            System.arraycopy(other.lostWith, 0, lostWith, 0, MOST_FACTS);
        }

        boolean hasFact(int fact) {
            return fact >= 0 && fact < size;
        }

        boolean hasBits(int bits) {
            return bits >= 0 && bits < 1 << size;
        }

        int allOf(int set) {
            int whole = 0;
            for (int f = 0; f < size; f++) {
                if (hasBit(set, f)) {
                    whole |= all[f];
                }
            }
            return whole;
        }

        void add(int leansOn) {
            if (size >= MOST_FACTS) {
                return;
            }
            int bit = 1 << size;
            leans[size] = leansOn;
            all[size] = allOf(leansOn) | bit;
            lostWith[size] = bit;
            for (int f = 0; f < size; f++) {
                if (hasBit(all[size], f)) {
                    lostWith[f] |= bit;
                }
            }
            size++;
        }
    }

    /** Members, leeches, the basin and the minute, as they are at one time. */
    private static final class Room {
        int members;
        int leeches;
        int basin;
        int minute;
        final int[] knows = new int[MOST_MEMBERS];
        final int[] kind = new int[MOST_LEECHES];
        final int[] on = new int[MOST_LEECHES];
        final int[] has = new int[MOST_LEECHES];

        void setEmpty() {
            members = 0;
            leeches = 0;
            basin = 0;
            minute = 0;
        }

        void setAs(Room other) {
            members = other.members;
            leeches = other.leeches;
            basin = other.basin;
            minute = other.minute;
            System.arraycopy(other.knows, 0, knows, 0, MOST_MEMBERS);
            System.arraycopy(other.kind, 0, kind, 0, MOST_LEECHES);
            System.arraycopy(other.on, 0, on, 0, MOST_LEECHES);
            System.arraycopy(other.has, 0, has, 0, MOST_LEECHES);
        }

        /** One member who knows a set, with one new leech on him. */
        void setAlone(int knownSet, int newKind) {
            setEmpty();
            addMember(knownSet);
            addLeech(newKind);
            on[0] = 0;
        }

        boolean hasMember(int member) {
            return member >= 0 && member < members;
        }

        boolean hasLeech(int leech) {
            return leech >= 0 && leech < leeches;
        }

        void addMember(int knownSet) {
            if (members < MOST_MEMBERS) {
                knows[members] = knownSet;
                members++;
            }
        }

        void addLeech(int newKind) {
            if (leeches < MOST_LEECHES) {
                kind[leeches] = newKind;
                on[leeches] = NONE;
                has[leeches] = 0;
                leeches++;
            }
        }

        void putAll(int puts, int member) {
            for (int l = 0; l < leeches; l++) {
                if (hasBit(puts, l)) {
                    on[l] = member;
                }
            }
        }

        /** The leeches (bits) on a member, or, for NONE, those that are off. */
        int leechesOn(int member) {
            int bits = 0;
            for (int l = 0; l < leeches; l++) {
                if (on[l] == member) {
                    bits |= 1 << l;
                }
            }
            return bits;
        }

        int known() {
            int union = 0;
            for (int m = 0; m < members; m++) {
                union |= knows[m];
            }
            return union;
        }

        void pass(Facts facts, int n) {
            for (int i = 0; i < n; i++) {
                for (int l = 0; l < leeches; l++) {
                    if (hasMember(on[l])) {
                        feed(facts, l, on[l]);
                    }
                }
                minute++;
            }
        }

        private void feed(Facts facts, int leech, int member) {
            int most = TAKES[kind[leech]];
            for (int taken = 0; taken < most && !isSated(leech) && knows[member] != 0; taken++) {
                int fact = nextFact(kind[leech], knows[member]);
                has[leech] |= 1 << fact;
                knows[member] &= ~facts.lostWith[fact];
            }
            if (isSated(leech)) {
                on[leech] = NONE;
            }
        }

        private boolean isSated(int leech) {
            return Integer.bitCount(has[leech]) >= HAS_ROOM[kind[leech]];
        }

        /** The fact that a leech of a kind takes of a set that is not empty. */
        private static int nextFact(int kind, int set) {
            boolean isDeep = kind == BISHOP || kind == MUFF;
            return isDeep ? Integer.numberOfTrailingZeros(set) : 31 - Integer.numberOfLeadingZeros(set);
        }
    }

    /** The text, and the reading of it: its clauses are done on copies, which hold only if there is no fault. */
    private static final class Text {
        final int[] letters = new int[MOST_LETTERS];
        int length;
        /** Where the token that is looked at begins, and the place behind it. */
        int start;
        int end;
        int clauses;
        final Facts facts = new Facts();
        final Room room = new Room();

        /** The place of the fault, or NONE. */
        int parse(Facts toldFacts, Room toldRoom) {
            facts.setAs(toldFacts);
            room.setAs(toldRoom);
            clauses = 0;
            end = 0;
            step();
            while (clauses < MOST_CLAUSES && takeClause()) {
                clauses++;
                if (start == length) {
                    return NONE;
                }
                if (clauses == MOST_CLAUSES || letters[start] != ';') {
                    return start;
                }
                step();
            }
            return start;
        }

        /** Goes on to the next token; at the end that is the empty one at the length. */
        private void step() {
            start = end;
            while (start < length && letters[start] == ' ') {
                start++;
            }
            end = start;
            if (isSmall(start)) {
                while (end < length && isSmall(end)) {
                    end++;
                }
            } else if (isDigit(start)) {
                while (end < length && isDigit(end)) {
                    end++;
                }
            } else if (start < length) {
                end++;
            }
        }

        private boolean isSmall(int place) {
            return place < length && letters[place] >= 'a' && letters[place] <= 'z';
        }

        private boolean isDigit(int place) {
            return place < length && letters[place] >= '0' && letters[place] <= '9';
        }

        private boolean isWord(String word) {
            if (end - start != word.length()) {
                return false;
            }
            for (int i = 0; i < word.length(); i++) {
                if (letters[start + i] != word.charAt(i)) {
                    return false;
                }
            }
            return true;
        }

        /** Does one clause and steps behind it; false leaves the token that cannot stand there. */
        private boolean takeClause() {
            if (isWord("club")) {
                facts.size = 0;
                room.setEmpty();
                step();
                return true;
            }
            if (isWord("fact")) {
                return takeFact();
            }
            if (isWord("member")) {
                return takeMember();
            }
            if (isWord("on")) {
                return takeOn();
            }
            return takeLeech();
        }

        private boolean takeFact() {
            if (facts.size == MOST_FACTS) {
                return false;
            }
            step();
            int set = stepOverSet();
            if (set == NONE) {
                return false;
            }
            facts.add(set);
            return true;
        }

        private boolean takeMember() {
            if (room.members == MOST_MEMBERS) {
                return false;
            }
            step();
            int set = stepOverSet();
            if (set == NONE) {
                return false;
            }
            room.addMember(facts.allOf(set));
            return true;
        }

        private boolean takeLeech() {
            int kind = kindOfWord();
            if (kind == NONE || room.leeches == MOST_LEECHES) {
                return false;
            }
            room.addLeech(kind);
            step();
            return true;
        }

        private boolean takeOn() {
            step();
            int leech = numberBelow(room.leeches);
            if (leech == NONE) {
                return false;
            }
            step();
            int member = numberBelow(room.members);
            if (member == NONE) {
                return false;
            }
            room.on[leech] = member;
            step();
            return true;
        }

        private int kindOfWord() {
            if (isWord("common")) {
                return COMMON;
            }
            if (isWord("striped")) {
                return STRIPED;
            }
            if (isWord("greedy")) {
                return GREEDY;
            }
            if (isWord("bishop")) {
                return BISHOP;
            }
            return isWord("muff") ? MUFF : NONE;
        }

        /** The facts that the token names, stepped over; nothing where no row of letters is; NONE where it cannot stand. */
        private int stepOverSet() {
            if (!isSmall(start)) {
                return 0;
            }
            int set = 0;
            for (int i = start; i < end; i++) {
                int fact = letters[i] - 'a';
                boolean isRising = set < 1 << fact;
                if (!facts.hasFact(fact) || !isRising) {
                    return NONE;
                }
                set |= 1 << fact;
            }
            step();
            return set;
        }

        private int numberBelow(int bound) {
            if (end - start != 1 || !isDigit(start)) {
                return NONE;
            }
            int number = letters[start] - '0';
            return number < bound ? number : NONE;
        }
    }

    /**
     * What was seen, a row of each: of whom, for how long, of which fact, whether he knew it then. What he knew at first is
     * not held: it is what he knows at the time when the kinds are asked for. Only club() takes members away, and it empties this.
     */
    private static final class Sightings {
        int size;
        final int[] member = new int[MOST_SEEN];
        final int[] minutes = new int[MOST_SEEN];
        final int[] fact = new int[MOST_SEEN];
        final int[] knew = new int[MOST_SEEN];

        void add(int seenMember, int n, int seenFact, int knewIt) {
            if (size < MOST_SEEN) {
                member[size] = seenMember;
                minutes[size] = n;
                fact[size] = seenFact;
                knew[size] = knewIt;
                size++;
            }
        }
    }

    /** The choice of members for the leeches that are off. Members are apart: what one knows hangs on his leeches alone. */
    private static final class Plan {
        /** Of each member, by the leeches (bits) put on him: what he knows in the end. */
        final int[][] after = new int[MOST_MEMBERS][1 << MOST_LEECHES];
        final int[] puts = new int[MOST_MEMBERS];
        final int[] choice = new int[MOST_LEECHES];
        final int[] best = new int[MOST_LEECHES];
        int most;
        private int members;
        private int leeches;
        private int off;
        private int limit;

        void begin(Room room, int c) {
            members = room.members;
            leeches = room.leeches;
            off = room.leechesOn(NONE);
            limit = c;
            most = NONE;
            for (int m = 0; m < MOST_MEMBERS; m++) {
                puts[m] = 0;
            }
            for (int l = 0; l < MOST_LEECHES; l++) {
                choice[l] = NONE;
                best[l] = NONE;
            }
        }

        void choose() {
            chooseFrom(0);
        }

        /** Tries all choices for this leech and those behind it, the first ones first. */
        private void chooseFrom(int leech) {
            if (leech >= leeches) {
                judge();
                return;
            }
            choice[leech] = NONE;
            chooseFrom(leech + 1);
            if (!hasBit(off, leech)) {
                return;
            }
            for (int m = 0; m < members; m++) {
                choice[leech] = m;
                puts[m] |= 1 << leech;
                chooseFrom(leech + 1);
                puts[m] &= ~(1 << leech);
            }
        }

        private void judge() {
            int known = 0;
            for (int m = 0; m < members; m++) {
                int knows = after[m][puts[m]];
                if (Integer.bitCount(knows) > limit) {
                    return;
                }
                known |= knows;
            }
            if (Integer.bitCount(known) > most) {
                most = Integer.bitCount(known);
                System.arraycopy(choice, 0, best, 0, MOST_LEECHES);
            }
        }
    }

    /** A part in lowest terms, as it is reckoned; it may be too large to be held. */
    private static final class Part {
        long above;
        long below = 1;

        void setLowest(long newAbove, long newBelow) {
            long divisor = commonDivisor(Math.abs(newAbove), newBelow);
            if (divisor > 0) {
                above = newAbove / divisor;
                below = newBelow / divisor;
            }
        }

        /** Euclid's; a hundred steps are more than any two longs need. */
        private static long commonDivisor(long a, long b) {
            long greater = a;
            long lesser = b;
            for (int step = 0; step < 100 && lesser != 0; step++) {
                long rest = greater % lesser;
                greater = lesser;
                lesser = rest;
            }
            return greater;
        }
    }

    /** A row of ints, longs or parts; of parts the value is what is above, and nothing is there where below is 0. */
    private static final class Slate {
        private static final int MISSING = -1, REST_BY = 1000003, BELOW_ZERO = 2000000, OF_PARTS = 3000000;
        private static final long HIGH = 1000000000L;

        int sort = MISSING;
        int size;
        final long[] value = new long[PLACES];
        final long[] below = new long[PLACES];

        void begin(int newSort, int newSize) {
            sort = newSort;
            size = newSize;
            for (int i = 0; i < PLACES; i++) {
                value[i] = 0;
                below[i] = 0;
            }
        }

        void setMissing() {
            sort = MISSING;
            size = 0;
        }

        boolean isMissing() {
            return sort == MISSING;
        }

        boolean hasPlace(int i) {
            return i >= 0 && i < size;
        }

        boolean hasRow(int i, int n) {
            return i >= 0 && n >= 0 && (long) i + n <= size;
        }

        boolean isNothingAt(int i) {
            return sort == PARTS && below[i] == 0;
        }

        /** What the machine finds of a place in a slate taken as of a sort; 0 if nothing. */
        int findPlace(int takenAs, int i) {
            if (isMissing()) {
                return NULL;
            }
            if (sort != takenAs) {
                return CAST;
            }
            return hasPlace(i) ? 0 : INDEX;
        }

        /** What the machine finds where place i is to come from the parts at j and k; 0 if nothing. */
        int findParts(int i, int j, int k) {
            int found = findPlace(PARTS, j);
            if (found != 0) {
                return found;
            }
            if (!hasPlace(k) || !hasPlace(i)) {
                return INDEX;
            }
            return isNothingAt(j) || isNothingAt(k) ? EMPTY : 0;
        }

        void setPlace(int i, int a, int b, Part part) {
            if (sort == PARTS) {
                part.setLowest(a, b);
                setPart(i, part);
            } else {
                value[i] = sort == 0 ? a : a * HIGH + b;
            }
        }

        void setPart(int i, Part part) {
            value[i] = part.above;
            below[i] = part.below;
        }

        int shown(int i, int what) {
            if (sort == PARTS) {
                return (int) (what == 0 ? value[i] + OF_PARTS : below[i]);
            }
            int rest = (int) (Math.abs(value[i]) % REST_BY);
            return value[i] < 0 ? rest + BELOW_ZERO : rest;
        }

        void copyTo(Slate target, int i, int j, int n) {
            System.arraycopy(value, i, target.value, j, n);
            System.arraycopy(below, i, target.below, j, n);
        }
    }
}
