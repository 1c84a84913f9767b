import java.util.ArrayList;
import java.util.List;
import java.util.function.BiConsumer;

/** All that can be seen of a club, each part on a new object behind the same calls: looking uses up calls, undoes, takes back. */
final class Looks {
    private static final List<BiConsumer<CountedClub, List<Integer>>> PARTS = List.of(
            Looks::atWhatIsTold, Looks::atWhatIsForetold, Looks::atSlates, Looks::atWhatCanBeUndone,
            (x, seen) -> atWhatWasKept(x, 0, seen), (x, seen) -> atWhatWasKept(x, 1, seen), Looks::atTheText);

    private Looks() {
    }

    static List<Integer> at(CountedClub x) {
        List<Integer> seen = new ArrayList<>();
        for (BiConsumer<CountedClub, List<Integer>> part : PARTS) {
            part.accept(x.again(), seen);
        }
        return seen;
    }

    /** All that keep() keeps. */
    static List<Integer> atRoomOf(CountedClub x) {
        List<Integer> seen = new ArrayList<>();
        atTheRoom(x.again(), seen);
        return seen;
    }

    private static void atWhatIsTold(CountedClub x, List<Integer> seen) {
        for (int what = 0; what <= 10; what++) {
            seen.add(x.count(what));
        }
        for (int f = 0; f <= 12; f++) {
            seen.add(x.fact(f, 0));
            seen.add(x.fact(f, 1));
            seen.add(x.fact(f, 2));
            seen.add(x.fact(f, 3));
        }
        for (int m = 0; m <= 4; m++) {
            seen.add(x.member(m, 0));
            seen.add(x.member(m, 1));
            seen.add(x.member(m, 2));
            seen.add(x.member(m, 3));
        }
        atLeeches(x, seen);
    }

    private static void atLeeches(CountedClub x, List<Integer> seen) {
        for (int l = 0; l <= 5; l++) {
            seen.add(x.leech(l, 0));
            seen.add(x.leech(l, 1));
            seen.add(x.leech(l, 2));
        }
    }

    private static void atWhatIsForetold(CountedClub x, List<Integer> seen) {
        seen.add(x.kinds());
        seen.add(x.boy());
        int members = x.count(1);
        for (int m = 0; m < members; m++) {
            for (int n = 1; n <= 6; n++) {
                seen.add(x.ahead(m, n));
                seen.add(x.ask(m, n));
            }
            seen.add(x.ahead(m, 40));
        }
    }

    private static void atSlates(CountedClub x, List<Integer> seen) {
        for (int s = 0; s < 4; s++) {
            for (int sort = 0; sort < 3; sort++) {
                int answer = x.show(s, sort, 0, 0);
                seen.add(answer);
                for (int i = 1; i <= 10 && answer != LeechClub.NULL && answer != LeechClub.CAST && answer != LeechClub.INDEX; i++) {
                    seen.add(x.show(s, sort, i - 1, 1));
                    answer = x.show(s, sort, i, 0);
                    seen.add(answer);
                }
            }
        }
    }

    private static void atWhatCanBeUndone(CountedClub x, List<Integer> seen) {
        int left = x.undo();
        seen.add(left);
        for (int i = 0; i < 9 && left >= 0; i++) {
            atTheRoom(x, seen);
            left = x.undo();
            seen.add(left);
        }
    }

    private static void atWhatWasKept(CountedClub x, int k, List<Integer> seen) {
        seen.add(x.back(k));
        atTheRoom(x, seen);
        seen.add(x.undo());
    }

    private static void atTheRoom(CountedClub x, List<Integer> seen) {
        seen.add(x.count(3));
        seen.add(x.count(4));
        for (int m = 0; m < 4; m++) {
            seen.add(x.member(m, 0));
        }
        for (int l = 0; l < 5; l++) {
            seen.add(x.leech(l, 1));
            seen.add(x.leech(l, 2));
        }
    }

    private static void atTheText(CountedClub x, List<Integer> seen) {
        seen.add(x.fault());
        seen.add(x.club());
        seen.add(x.erase());
        atWhatIsTold(x, seen);
    }
}
