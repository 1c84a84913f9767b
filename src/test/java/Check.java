import java.io.IOException;
import java.io.UncheckedIOException;
import java.nio.file.Files;
import java.nio.file.Path;
import java.util.List;
import java.util.function.IntSupplier;

/** What the tests share: counting wrong answers, and whether a call changed anything. */
final class Check {
    /** Its words, one blank between; empty where the tests are run without it. */
    private static final String DOCUMENT = document();

    private int looked = 0;
    private int wrong = 0;
    private final String name;
    private String sentence = "";

    Check(String name) {
        this.name = name;
    }

    /** The sentence of the document, in pieces, that is looked at from now on; it is told with each wrong answer. */
    void says(String... pieces) {
        sentence = " [" + String.join(" .. ", pieces) + "]";
        for (String piece : pieces) {
            holds("the document says: " + piece, DOCUMENT.isEmpty() || DOCUMENT.contains(piece));
        }
    }

    void due(String call, long got, long want) {
        looked++;
        if (got != want) {
            wrong++;
            System.out.println(name + sentence + ": " + call + " answered " + got + ", due is " + want);
        }
    }

    void holds(String what, boolean isSo) {
        looked++;
        if (!isSo) {
            wrong++;
            System.out.println(name + sentence + ": not so: " + what);
        }
    }

    /** A call that is refused, or only tells: its answer, and that nothing that can be seen has changed. */
    void unchanged(CountedClub x, String call, int want, IntSupplier answer) {
        List<Integer> before = Looks.at(x);
        int calls = x.calls();
        due(call, answer.getAsInt(), want);
        holds(call + " is a call of the club that is looked at", x.calls() > calls);
        holds(call + " changes nothing", before.equals(Looks.at(x)));
    }

    private static String document() {
        Path path = Path.of("../shared/DOC.md");
        try {
            return Files.exists(path) ? Files.readString(path).replace("`", "").replaceAll("\\s+", " ") : "";
        } catch (IOException e) {
            throw new UncheckedIOException(e);
        }
    }

    /** Ends the program: with 1 if an answer was wrong. */
    void end() {
        System.out.println(name + ": " + looked + " looked at, " + wrong + " wrong");
        System.exit(wrong == 0 && looked > 0 ? 0 : 1);
    }
}
