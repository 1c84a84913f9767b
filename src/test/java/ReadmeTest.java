import java.io.File;
import java.io.IOException;
import java.lang.invoke.MethodHandles;
import java.nio.file.Files;
import java.nio.file.Path;
import java.util.ArrayList;
import java.util.List;
import java.util.function.Supplier;
import java.util.regex.Matcher;
import java.util.regex.Pattern;
import javax.tools.ToolProvider;

/** README.md: its examples compile, the class gives each answer that they name, and its tables are those of the class. */
public final class ReadmeTest {
    private static final Check check = new Check("ReadmeTest");
    private static final Pattern EXAMPLE = Pattern.compile("(?s)```java\n(.*?)```");
    /** A call and the answer that stands first behind it. */
    private static final Pattern TOLD = Pattern.compile("(club\\.\\w+\\(.*\\));\\s*// (-?\\d+|[A-Z]+)\\b.*");
    private static final Pattern REFUSAL = Pattern.compile("\\| `([A-Z]+)` \\| (-\\d+) \\| .* \\|");

    public static void main(String[] args) throws Exception {
        String page = Files.readString(Path.of("README.md"));
        examples(page);
        refusals(page);
        names(page);
        check.end();
    }

    private static void examples(String page) throws Exception {
        List<String> calls = new ArrayList<>();
        List<Integer> due = new ArrayList<>();
        StringBuilder body = new StringBuilder();
        Matcher m = EXAMPLE.matcher(page);
        while (m.find()) {
            for (String line : m.group(1).split("\n")) {
                Matcher told = TOLD.matcher(line);
                if (told.matches()) {
                    calls.add(told.group(1));
                    due.add(number(told.group(2)));
                    body.append("got.add(").append(told.group(1)).append(");\n");
                } else {
                    check.holds("an answer is told of " + line, !line.startsWith("club."));
                    body.append(line).append('\n');
                }
            }
        }
        List<Integer> got = run(body.toString().replace("LeechClub club = new LeechClub()", "CountedClub club = new CountedClub()"));
        check.due("calls of the examples", got.size(), calls.size());
        for (int i = 0; i < calls.size() && i < got.size(); i++) {
            check.due(calls.get(i), got.get(i), due.get(i));
        }
        for (String name : Both.FACE.keySet()) {
            check.holds("the examples show " + name, body.indexOf("club." + name + "(") >= 0);
        }
    }

    private static int number(String answer) throws ReflectiveOperationException {
        return Character.isLetter(answer.charAt(0)) ? LeechClub.class.getField(answer).getInt(null) : Integer.parseInt(answer);
    }

    /** The answers of a row of statements; no more calls than are promised are made in them. */
    private static List<Integer> run(String body) throws Exception {
        Path directory = Files.createTempDirectory("readme");
        Path source = directory.resolve("ReadmeExample.java");
        Path compiled = directory.resolve("ReadmeExample.class");
        try {
            Files.writeString(source, "final class ReadmeExample implements java.util.function.Supplier<java.util.List<Integer>> {\n"
                    + "public java.util.List<Integer> get() {\njava.util.List<Integer> got = new java.util.ArrayList<>();\n"
                    + body + "return got;\n}\n}\n");
            String path = new File(LeechClub.class.getProtectionDomain().getCodeSource().getLocation().toURI()).getPath();
            int result = ToolProvider.getSystemJavaCompiler().run(null, null, null, "-cp", path, source.toString());
            check.due("javac of the examples", result, 0);
            return result == 0 ? answers(Files.readAllBytes(compiled)) : List.of();
        } finally {
            delete(source, compiled, directory);
        }
    }

    private static List<Integer> answers(byte[] compiled) throws ReflectiveOperationException {
        Object example = MethodHandles.lookup().defineClass(compiled).getDeclaredConstructor().newInstance();
        List<Integer> got = new ArrayList<>();
        for (Object answer : (List<?>) ((Supplier<?>) example).get()) {
            got.add((Integer) answer);
        }
        return got;
    }

    private static void delete(Path... paths) throws IOException {
        for (Path path : paths) {
            Files.deleteIfExists(path);
        }
    }

    /** In the order in which a call is refused. */
    private static void refusals(String page) throws ReflectiveOperationException {
        List<String> names = new ArrayList<>();
        Matcher m = REFUSAL.matcher(page);
        while (m.find()) {
            names.add(m.group(1));
            check.due(m.group(1), number(m.group(1)), Integer.parseInt(m.group(2)));
        }
        List<String> inOrder = List.of("UNKNOWN", "OUTSIDE", "NOT", "FULL", "NULL", "CAST", "STORE", "INDEX", "EMPTY", "SIZE");
        check.holds("the refusals are told in their order: " + names, names.equals(inOrder));
    }

    private static void names(String page) {
        for (String name : Both.FACE.keySet()) {
            check.holds("the page names " + name, page.contains("`" + name + "`"));
        }
        for (File test : new File("src/test/java").listFiles()) {
            String name = test.getName().replace(".java", "");
            check.holds("the page names " + name, !name.endsWith("Test") || page.contains("`" + name + "`"));
        }
    }
}
