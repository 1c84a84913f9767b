import java.math.BigInteger;
import java.util.ArrayDeque;
import java.util.ArrayList;
import java.util.Arrays;
import java.util.Deque;
import java.util.HashMap;
import java.util.List;
import java.util.Map;
import java.util.TreeSet;
import java.util.regex.Matcher;
import java.util.regex.Pattern;

/** The document once more, in another way (sets, copies, search by trying all): what the class is held against. */
final class Model {
    private static final List<String> KINDS = List.of("common", "striped", "greedy", "bishop", "muff");

    static final class Leech {
        final int kind;
        Integer on;
        TreeSet<Integer> has = new TreeSet<>();

        Leech(int kind) {
            this.kind = kind;
        }

        Leech copy() {
            Leech c = new Leech(kind);
            c.on = on;
            c.has = new TreeSet<>(has);
            return c;
        }

        int takes() {
            return kind == 1 ? 2 : kind == 2 ? 3 : 1;
        }

        int room() {
            switch (KINDS.get(kind)) {
                case "common": return 3;
                case "striped": return 2 * 3;
                case "greedy": return 2 * 3 + 3;
                case "bishop": return 2;
                default: return 99;
            }
        }

        boolean full() {
            return has.size() >= room();
        }
    }

    static final class World {
        List<TreeSet<Integer>> members = new ArrayList<>();
        List<Leech> leeches = new ArrayList<>();
        TreeSet<Integer> basin = new TreeSet<>();
        int minute;

        World copy() {
            World w = new World();
            members.forEach(m -> w.members.add(new TreeSet<>(m)));
            leeches.forEach(l -> w.leeches.add(l.copy()));
            w.basin = new TreeSet<>(basin);
            w.minute = minute;
            return w;
        }
    }

    private StringBuilder text = new StringBuilder();
    private List<TreeSet<Integer>> leans = new ArrayList<>();
    private World told = new World();
    private World now = new World();
    private final Deque<World> past = new ArrayDeque<>();
    private final Map<Integer, World> kept = new HashMap<>();
    private final List<int[]> seen = new ArrayList<>();
    private final Object[][] slates = new Object[4][];
    private final int[] sorts = new int[4];

    // ---- reading

    private static final Pattern TOKEN = Pattern.compile("[a-z]+|[0-9]+|[^ ]", Pattern.DOTALL);
    private List<TreeSet<Integer>> newLeans;
    private World newTold;
    private int clauses;

    private int read(boolean keep) {
        List<String> tokens = new ArrayList<>();
        List<Integer> places = new ArrayList<>();
        Matcher m = TOKEN.matcher(text);
        while (m.find()) {
            tokens.add(m.group());
            places.add(m.start());
        }
        tokens.add("");
        places.add(text.length());
        newLeans = new ArrayList<>(leans);
        newTold = told.copy();
        clauses = 0;
        int at = 0;
        while (true) {
            int length = clause(tokens, at);
            if (length < 0) {
                return places.get(at - length - 1);
            }
            at += length;
            clauses++;
            if (tokens.get(at).isEmpty()) {
                break;
            }
            if (!tokens.get(at).equals(";") || clauses == 20) {
                return places.get(at);
            }
            at++;
        }
        if (keep) {
            leans = newLeans;
            told = newTold;
        }
        return -1;
    }

    /** How many tokens the clause has, or, below 0, the token (counted from 1) that cannot stand. */
    private int clause(List<String> tokens, int at) {
        String word = tokens.get(at);
        String next = at + 1 < tokens.size() ? tokens.get(at + 1) : "";
        if (word.equals("club")) {
            newLeans = new ArrayList<>();
            newTold = new World();
            return 1;
        }
        if (word.equals("fact") || word.equals("member")) {
            boolean fact = word.equals("fact");
            if (fact ? newLeans.size() == 12 : newTold.members.size() == 4) {
                return -1;
            }
            TreeSet<Integer> set = new TreeSet<>();
            boolean named = next.matches("[a-z]+");
            if (named) {
                char last = 0;
                for (char c : next.toCharArray()) {
                    if (c <= last || c - 'a' >= newLeans.size()) {
                        return -2;
                    }
                    last = c;
                    set.add(c - 'a');
                }
            }
            if (fact) {
                newLeans.add(set);
            } else {
                newTold.members.add(all(set, newLeans));
            }
            return named ? 2 : 1;
        }
        if (KINDS.contains(word)) {
            if (newTold.leeches.size() == 5) {
                return -1;
            }
            newTold.leeches.add(new Leech(KINDS.indexOf(word)));
            return 1;
        }
        if (word.equals("on")) {
            if (!next.matches("[0-9]") || Integer.parseInt(next) >= newTold.leeches.size()) {
                return -2;
            }
            String third = tokens.get(at + 2);
            if (!third.matches("[0-9]") || Integer.parseInt(third) >= newTold.members.size()) {
                return -3;
            }
            newTold.leeches.get(Integer.parseInt(next)).on = Integer.parseInt(third);
            return 3;
        }
        return -1;
    }

    // ---- sets

    private static TreeSet<Integer> all(Iterable<Integer> set, List<TreeSet<Integer>> leans) {
        TreeSet<Integer> whole = new TreeSet<>();
        for (int f : set) {
            whole.add(f);
            whole.addAll(all(leans.get(f), leans));
        }
        return whole;
    }

    private TreeSet<Integer> all(int fact) {
        return all(List.of(fact), leans);
    }

    private static int bits(Iterable<Integer> set) {
        int bits = 0;
        for (int f : set) {
            bits += 1 << f;
        }
        return bits;
    }

    private static TreeSet<Integer> set(int bits) {
        TreeSet<Integer> set = new TreeSet<>();
        for (int f = 0; f < 31; f++) {
            if ((bits & 1 << f) != 0) {
                set.add(f);
            }
        }
        return set;
    }

    // ---- minutes

    private void pass(World w) {
        for (Leech l : w.leeches) {
            if (l.on == null) {
                continue;
            }
            TreeSet<Integer> knows = w.members.get(l.on);
            for (int t = 0; t < l.takes(); t++) {
                if (l.full() || knows.isEmpty()) {
                    break;
                }
                int lost = l.kind >= 3 ? knows.first() : knows.last();
                l.has.add(lost);
                knows.removeIf(f -> all(f).contains(lost));
            }
            if (l.full()) {
                l.on = null;
            }
        }
        w.minute++;
    }

    private World behind(World w, int n) {
        World later = w.copy();
        for (int i = 0; i < n; i++) {
            pass(later);
        }
        return later;
    }

    private TreeSet<Integer> alone(TreeSet<Integer> knows, int kind, int n) {
        World w = new World();
        w.members.add(new TreeSet<>(knows));
        w.leeches.add(new Leech(kind));
        w.leeches.get(0).on = 0;
        return behind(w, n).members.get(0);
    }

    private void remember() {
        past.addLast(now.copy());
        if (past.size() > 8) {
            past.removeFirst();
        }
    }

    private boolean noFact(int f) {
        return f < 0 || f >= leans.size();
    }

    private boolean noBits(int b) {
        return b < 0 || b >= Math.pow(2, leans.size());
    }

    private boolean noMember(int m) {
        return m < 0 || m >= now.members.size();
    }

    private boolean noLeech(int l) {
        return l < 0 || l >= now.leeches.size();
    }

    private static boolean out(int n, int least, int most) {
        return n < least || n > most;
    }

    private static int part(BigInteger above, BigInteger below, int which) {
        BigInteger g = above.gcd(below);
        return (which == 0 ? above : below).divide(g).intValueExact();
    }

    int call(String name, int[] a) {
        switch (name) {
            case "write": case "erase": case "fault": case "club":
                return callText(name, a);
            case "fact": case "member": case "leech": case "as": case "count":
                return callTold(name, a);
            case "minute": case "put": case "salt": case "read": case "undo": case "keep": case "back":
                return callDone(name, a);
            case "ahead": case "gone": case "boy": case "soonest": case "order": case "most": case "sound":
                return callForetold(name, a);
            case "seen": case "forget": case "kinds": case "ask":
                return callSeen(name, a);
            default:
                return callSlates(name, a);
        }
    }

    private int callText(String name, int[] a) {
        switch (name) {
            case "write":
                if (out(a[0], 0, 255)) {
                    return -3;
                }
                if (text.length() == 200) {
                    return -5;
                }
                text.append((char) a[0]);
                return text.length();
            case "erase":
                int had = text.length();
                text = new StringBuilder();
                return had;
            case "fault":
                return read(false);
            default:
                if (read(true) != -1) {
                    return -4;
                }
                now = told.copy();
                past.clear();
                kept.clear();
                seen.clear();
                text = new StringBuilder();
                return clauses;
        }
    }

    private int callTold(String name, int[] a) {
        switch (name) {
            case "fact":
                if (noFact(a[0])) {
                    return -2;
                }
                TreeSet<Integer> who = new TreeSet<>();
                switch (a[1]) {
                    case 0: return bits(leans.get(a[0]));
                    case 1: return bits(all(a[0]));
                    case 2:
                        for (int m = 0; m < now.members.size(); m++) {
                            if (now.members.get(m).contains(a[0])) {
                                who.add(m);
                            }
                        }
                        return bits(who);
                    case 3:
                        for (int l = 0; l < now.leeches.size(); l++) {
                            if (now.leeches.get(l).has.contains(a[0])) {
                                who.add(l);
                            }
                        }
                        return bits(who);
                    default: return -3;
                }
            case "member":
                if (noMember(a[0])) {
                    return -2;
                }
                if (out(a[1], 0, 3)) {
                    return -3;
                }
                if (a[1] == 0) {
                    return bits(now.members.get(a[0]));
                }
                if (a[1] == 1) {
                    return leechesOn(a[0]);
                }
                if (leans.isEmpty()) {
                    return 1;
                }
                return part(BigInteger.valueOf(leans.size() - now.members.get(a[0]).size()),
                        BigInteger.valueOf(leans.size()), a[1] - 2);
            case "leech":
                if (noLeech(a[0])) {
                    return -2;
                }
                Leech l = now.leeches.get(a[0]);
                return a[1] == 0 ? l.kind : a[1] == 1 ? l.on == null ? -1 : l.on : a[1] == 2 ? bits(l.has) : -3;
            case "as":
                if (noLeech(a[0])) {
                    return -2;
                }
                if (out(a[1], 0, 5)) {
                    return -3;
                }
                int[] over = {-1, 0, 1, 2, 0, 4};
                for (int k = now.leeches.get(a[0]).kind + 1; k >= 0; k = over[k]) {
                    if (k == a[1]) {
                        return now.leeches.get(a[0]).room();
                    }
                }
                return -4;
            default:
                return callCount(a[0]);
        }
    }

    private int leechesOn(Integer member) {
        int bits = 0;
        for (int l = 0; l < now.leeches.size(); l++) {
            if (java.util.Objects.equals(now.leeches.get(l).on, member)) {
                bits |= 1 << l;
            }
        }
        return bits;
    }

    private int callCount(int what) {
        TreeSet<Integer> known = new TreeSet<>();
        now.members.forEach(known::addAll);
        int there = (int) Arrays.stream(slates).filter(s -> s != null).count();
        int[] all = {leans.size(), now.members.size(), now.leeches.size(), now.minute, bits(now.basin), leechesOn(null),
            bits(known), seen.size(), there, past.size(), text.length()};
        return out(what, 0, 10) ? -3 : all[what];
    }

    private int callDone(String name, int[] a) {
        switch (name) {
            case "minute":
                if (out(a[0], 1, 12)) {
                    return -3;
                }
                if (now.minute + a[0] > 999) {
                    return -5;
                }
                remember();
                now = behind(now, a[0]);
                return now.minute;
            case "put":
                if (noLeech(a[0]) || a[1] != -1 && noMember(a[1])) {
                    return -2;
                }
                Leech l = now.leeches.get(a[0]);
                int was = l.on == null ? -1 : l.on;
                if (was == a[1]) {
                    return -4;
                }
                remember();
                l.on = a[1] == -1 ? null : a[1];
                return was;
            case "salt":
                if (noLeech(a[0])) {
                    return -2;
                }
                if (now.leeches.get(a[0]).on != null) {
                    return -4;
                }
                remember();
                now.basin.addAll(now.leeches.get(a[0]).has);
                now.leeches.get(a[0]).has.clear();
                return bits(now.basin);
            case "read":
                if (noMember(a[0]) || noFact(a[1])) {
                    return -2;
                }
                TreeSet<Integer> knows = now.members.get(a[0]);
                if (knows.contains(a[1])) {
                    return -4;
                }
                remember();
                int before = knows.size();
                knows.addAll(all(a[1]));
                return knows.size() - before;
            case "undo":
                if (past.isEmpty()) {
                    return -4;
                }
                now = past.removeLast();
                return past.size();
            case "keep":
                if (out(a[0], 0, 1)) {
                    return -2;
                }
                kept.put(a[0], now.copy());
                return now.minute;
            default:
                if (out(a[0], 0, 1)) {
                    return -2;
                }
                if (!kept.containsKey(a[0])) {
                    return -4;
                }
                now = kept.get(a[0]).copy();
                past.clear();
                return now.minute;
        }
    }

    private int callForetold(String name, int[] a) {
        switch (name) {
            case "ahead":
                return noMember(a[0]) ? -2 : out(a[1], 0, 40) ? -3 : bits(behind(now, a[1]).members.get(a[0]));
            case "gone":
                if (noMember(a[0]) || noFact(a[1])) {
                    return -2;
                }
                for (int n = 0; n <= 40; n++) {
                    if (!behind(now, n).members.get(a[0]).contains(a[1])) {
                        return n;
                    }
                }
                return -1;
            case "boy":
                TreeSet<Integer> could = new TreeSet<>(now.basin);
                could.removeIf(f -> !now.basin.containsAll(all(f)));
                return bits(could);
            case "soonest":
                if (noMember(a[0]) || noBits(a[1]) || noBits(a[2])) {
                    return -2;
                }
                if (out(a[3], 0, 1)) {
                    return -3;
                }
                for (int n = 0; n <= 20; n++) {
                    for (int kind = 0; kind < 5; kind++) {
                        if (wanted(alone(now.members.get(a[0]), kind, n), a[1], a[2])) {
                            return a[3] == 0 ? n : kind;
                        }
                    }
                }
                return -1;
            case "order":
                return noMember(a[0]) || noBits(a[1]) || noBits(a[2]) ? -2 : order(a);
            case "most":
                if (a[2] != -1 && noLeech(a[2])) {
                    return -2;
                }
                return out(a[0], 0, 12) || out(a[1], 0, 10) ? -3 : most(a[0], a[1], a[2]);
            default:
                if (noFact(a[0])) {
                    return -2;
                }
                if (out(a[1], 0, 5) || out(a[2], 0, 1)) {
                    return -3;
                }
                int size = all(a[0]).size();
                return part(BigInteger.valueOf(a[1]).pow(size), BigInteger.valueOf(5).pow(size), a[2]);
        }
    }

    private static boolean wanted(TreeSet<Integer> knows, int lose, int keep) {
        return set(lose).stream().noneMatch(knows::contains) && knows.containsAll(set(keep));
    }

    private int order(int[] a) {
        for (int row = 0; row <= 555; row++) {
            String figures = row == 0 ? "" : String.valueOf(row);
            if (!figures.matches("[1-5]*")) {
                continue;
            }
            TreeSet<Integer> knows = now.members.get(a[0]);
            for (char c : figures.toCharArray()) {
                knows = alone(knows, c - '1', 1);
            }
            if (wanted(knows, a[1], a[2])) {
                return row;
            }
        }
        return -1;
    }

    private int most(int c, int n, int leech) {
        int size = now.leeches.size();
        int base = now.members.size() + 1;
        int best = -1;
        int[] bestPut = new int[size];
        Arrays.fill(bestPut, -1);
        for (int code = 0; code < Math.pow(base, size); code++) {
            int[] put = new int[size];
            int rest = code;
            for (int l = size - 1; l >= 0; l--) {
                put[l] = rest % base - 1;
                rest /= base;
            }
            World w = now.copy();
            boolean allowed = true;
            for (int l = 0; l < size; l++) {
                if (put[l] >= 0) {
                    allowed &= w.leeches.get(l).on == null;
                    w.leeches.get(l).on = put[l];
                }
            }
            if (!allowed) {
                continue;
            }
            w = behind(w, n);
            TreeSet<Integer> known = new TreeSet<>();
            w.members.forEach(known::addAll);
            if (w.members.stream().allMatch(m -> m.size() <= c) && known.size() > best) {
                best = known.size();
                bestPut = put;
            }
        }
        return leech == -1 ? best : bestPut[leech];
    }

    private int callSeen(String name, int[] a) {
        switch (name) {
            case "seen":
                if (noMember(a[0]) || noFact(a[2])) {
                    return -2;
                }
                if (out(a[1], 1, 6) || out(a[3], 0, 1)) {
                    return -3;
                }
                if (seen.size() == 6) {
                    return -5;
                }
                seen.add(a.clone());
                return seen.size();
            case "forget":
                int had = seen.size();
                seen.clear();
                return had;
            case "kinds":
                return bits(fitting());
            default:
                if (noMember(a[0])) {
                    return -2;
                }
                if (out(a[1], 1, 6)) {
                    return -3;
                }
                int best = -1;
                int least = 99;
                for (int f = 0; f < leans.size(); f++) {
                    int yes = 0;
                    int no = 0;
                    for (int kind : fitting()) {
                        if (alone(now.members.get(a[0]), kind, a[1]).contains(f)) {
                            yes++;
                        } else {
                            no++;
                        }
                    }
                    if (yes > 0 && no > 0 && Math.max(yes, no) < least) {
                        least = Math.max(yes, no);
                        best = f;
                    }
                }
                return best;
        }
    }

    private TreeSet<Integer> fitting() {
        TreeSet<Integer> kinds = new TreeSet<>(List.of(0, 1, 2, 3, 4));
        kinds.removeIf(kind -> seen.stream().anyMatch(s -> alone(now.members.get(s[0]), kind, s[1]).contains(s[2]) != (s[3] == 1)));
        return kinds;
    }

    private int callSlates(String name, int[] a) {
        if (out(a[0], 0, 3) || name.equals("copy") && out(a[2], 0, 3)) {
            return -2;
        }
        Object[] row = slates[a[0]];
        switch (name) {
            case "slate":
                if (out(a[1], 0, 2) || a[2] > 10) {
                    return -3;
                }
                if (a[2] < 0) {
                    return -16;
                }
                slates[a[0]] = new Object[a[2]];
                Arrays.fill(slates[a[0]], a[1] == 2 ? null : BigInteger.ZERO);
                sorts[a[0]] = a[1];
                return a[2];
            case "chalk":
                if (out(a[1], 0, 2) || a[1] == 2 && (out(a[3], -1000000, 1000000) || out(a[4], 1, 1000000))) {
                    return -3;
                }
                if (row == null || sorts[a[0]] != a[1] || out(a[2], 0, row.length - 1)) {
                    return row == null ? -11 : sorts[a[0]] != a[1] ? -12 : -14;
                }
                BigInteger first = BigInteger.valueOf(a[3]);
                BigInteger second = BigInteger.valueOf(a[4]);
                row[a[2]] = a[1] == 0 ? first : a[1] == 1 ? first.multiply(BigInteger.TEN.pow(9)).add(second)
                        : lowest(first, second);
                return 1;
            case "show":
                if (out(a[1], 0, 2) || out(a[3], 0, 1)) {
                    return -3;
                }
                if (row == null || sorts[a[0]] != a[1] || out(a[2], 0, row.length - 1)) {
                    return row == null ? -11 : sorts[a[0]] != a[1] ? -12 : -14;
                }
                return show(row[a[2]], a[3]);
            case "reckon":
                return reckon(row, a);
            case "copy":
                Object[] to = slates[a[2]];
                if (row == null || to == null) {
                    return -11;
                }
                if (sorts[a[0]] != sorts[a[2]]) {
                    return -13;
                }
                if (a[1] < 0 || a[3] < 0 || a[4] < 0 || a[4] > row.length - a[1] || a[4] > to.length - a[3]) {
                    return -14;
                }
                Object[] taken = Arrays.copyOfRange(row, a[1], a[1] + a[4]);
                for (int i = 0; i < taken.length; i++) {
                    to[a[3] + i] = taken[i];
                }
                return a[4];
            default:
                if (row == null) {
                    return -11;
                }
                slates[a[0]] = null;
                return row.length;
        }
    }

    private static BigInteger[] lowest(BigInteger above, BigInteger below) {
        BigInteger g = above.gcd(below);
        return new BigInteger[] {above.divide(g), below.divide(g)};
    }

    private static int show(Object held, int what) {
        if (held == null) {
            return -15;
        }
        if (held instanceof BigInteger[] part) {
            return what == 0 ? part[0].intValueExact() + 3000000 : part[1].intValueExact();
        }
        BigInteger v = (BigInteger) held;
        return v.abs().mod(BigInteger.valueOf(1000003)).intValueExact() + (v.signum() < 0 ? 2000000 : 0);
    }

    private int reckon(Object[] row, int[] a) {
        if (out(a[4], 0, 2)) {
            return -3;
        }
        if (row == null || sorts[a[0]] != 2) {
            return row == null ? -11 : -12;
        }
        for (int place : new int[] {a[2], a[3], a[1]}) {
            if (out(place, 0, row.length - 1)) {
                return -14;
            }
        }
        if (row[a[2]] == null || row[a[3]] == null) {
            return -15;
        }
        BigInteger[] j = (BigInteger[]) row[a[2]];
        BigInteger[] k = (BigInteger[]) row[a[3]];
        BigInteger cross = j[0].multiply(k[1]);
        BigInteger other = k[0].multiply(j[1]);
        BigInteger above = a[4] == 0 ? cross.add(other) : a[4] == 1 ? cross.subtract(other) : j[0].multiply(k[0]);
        BigInteger[] sum = lowest(above, j[1].multiply(k[1]));
        BigInteger most = BigInteger.valueOf(1000000);
        if (sum[0].abs().compareTo(most) > 0 || sum[1].compareTo(most) > 0) {
            return -4;
        }
        row[a[1]] = sum;
        return 1;
    }
}
