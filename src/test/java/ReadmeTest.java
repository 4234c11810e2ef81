import java.io.IOException;
import java.lang.reflect.InvocationTargetException;
import java.lang.reflect.Method;
import java.nio.file.DirectoryStream;
import java.nio.file.Files;
import java.nio.file.Path;
import java.util.ArrayList;
import java.util.HashMap;
import java.util.List;
import java.util.Map;
import java.util.TreeSet;
import java.util.regex.Matcher;
import java.util.regex.Pattern;

/**
 * The calls that README.md shows, with the answers that it tells. They are read from there, so that
 * what stands in it and what is tested can not differ; a line of code that is not understood is wrong.
 */
public final class ReadmeTest {
    private static final Pattern OBJECT = Pattern.compile("CanonNames (\\w+) = new CanonNames\\(\\);");
    private static final Pattern CONSTANT = Pattern.compile("int \\w+ = CanonNames\\.(\\w+); +// (.*)");
    private static final Pattern CALL = Pattern.compile("(?:int (\\w+) = )?(\\w+)\\.(\\w+)\\(([^()]*)\\); +// (.*)");
    private static final Pattern ANSWER = Pattern.compile("(throws \\w+|BAD|FULL|-?\\d+|0x[0-9a-f]{8})(?:: .*)?");
    private static final Pattern ROW = Pattern.compile("\\| `(\\w+)\\(.*\\)` \\| (.*) \\|");

    private static final Map<String, CanonNames> OBJECTS = new HashMap<>();
    private static final Map<String, Long> NUMBERS = new HashMap<>();
    private static final TreeSet<String> CALLED = new TreeSet<>();
    private static final Map<String, String> ROWS = new HashMap<>();

    public static void main(String[] args) throws IOException, ReflectiveOperationException {
        List<String> lines = Files.readAllLines(Path.of("README.md"));
        for (String line : code(lines)) {
            run(line);
        }
        readRows(lines);
        rowsOfGraph();
        rowsOfNaming();
        rowsOfHashes();
        rowsOfKept();
        nothingLeftOut(String.join("\n", lines));
        Check.end("ReadmeTest");
    }

    private static void due(String what, long got, long want) {
        Check.due("README.md: " + what, got, want);
    }

    private static void isTrue(String what, boolean holds) {
        due(what, holds ? 1 : 0, 1);
    }

    private static List<String> code(List<String> lines) {
        List<String> code = new ArrayList<>();
        boolean inside = false;
        for (String line : lines) {
            if (line.startsWith("```")) {
                inside = line.equals("```java");
            } else if (inside && !line.isEmpty()) {
                code.add(line);
            }
        }
        return code;
    }

    private static void run(String line) throws ReflectiveOperationException {
        Matcher object = OBJECT.matcher(line);
        Matcher constant = CONSTANT.matcher(line);
        Matcher call = CALL.matcher(line);
        if (object.matches()) {
            OBJECTS.put(object.group(1), new CanonNames());
        } else if (constant.matches()) {
            due(line, CanonNames.class.getField(constant.group(1)).getInt(null), number(told(constant.group(2))));
        } else if (call.matches() && OBJECTS.containsKey(call.group(2))) {
            runCall(line, call);
        } else {
            isTrue("this line is understood: " + line, false);
        }
    }

    /** What is told as an answer, without the words behind it. */
    private static String told(String text) {
        Matcher answer = ANSWER.matcher(text);
        isTrue("this answer is understood: " + text, answer.matches());
        return answer.matches() ? answer.group(1) : "0";
    }

    private static long number(String text) {
        if (NUMBERS.containsKey(text)) {
            return NUMBERS.get(text);
        }
        if (text.startsWith("0x")) {
            return Integer.parseUnsignedInt(text.substring(2), 16);
        }
        return text.equals("BAD") ? CanonNames.BAD : text.equals("FULL") ? CanonNames.FULL : Long.parseLong(text);
    }

    private static void runCall(String line, Matcher call) throws ReflectiveOperationException {
        CALLED.add(call.group(3));
        String[] told = call.group(4).isEmpty() ? new String[0] : call.group(4).split(", ");
        Method method = methodOf(call.group(3), told.length);
        Object[] given = new Object[told.length];
        for (int i = 0; i < told.length; i++) {
            long number = number(told[i]);
            if (method.getParameterTypes()[i] == int.class) {
                given[i] = (int) number;
            } else {
                given[i] = number;
            }
        }
        String answer = told(call.group(5));
        try {
            long got = ((Number) method.invoke(OBJECTS.get(call.group(2)), given)).longValue();
            isTrue(line + ", which throws nothing", !answer.startsWith("throws "));
            if (!answer.startsWith("throws ")) {
                due(line, got, number(answer));
            }
            if (call.group(1) != null) {
                NUMBERS.put(call.group(1), got);
            }
        } catch (InvocationTargetException e) {
            String thrown = "throws " + e.getCause().getClass().getSimpleName();
            isTrue(line + ", which " + thrown, answer.equals(thrown));
        }
    }

    private static Method methodOf(String name, int parameters) throws NoSuchMethodException {
        for (Method method : CanonNames.class.getMethods()) {
            if (method.getName().equals(name) && method.getParameterCount() == parameters) {
                return method;
            }
        }
        throw new NoSuchMethodException(name + " of " + parameters);
    }

    private static void readRows(List<String> lines) {
        for (String line : lines) {
            Matcher row = ROW.matcher(line);
            if (row.matches()) {
                ROWS.put(row.group(1), row.group(2));
            }
        }
    }

    /** That a row of the table has these words: the answers that the calls behind this are about. */
    private static void row(String call, String words) {
        String is = ROWS.remove(call);
        isTrue("the row of " + call + "() is: " + is, words.equals(is));
    }

    private static void rowsOfGraph() {
        CanonNames x = new CanonNames();
        row("blank", "the new blank's number; `FULL` when there are 8");
        row("blanks", "how many blanks the graph has");
        for (int n = 1; n <= 8; n++) {
            due("blank()", x.blank(), n);
            due("blanks()", x.blanks(), n);
        }
        due("blank() when there are 8", x.blank(), CanonNames.FULL);
        due("blanks() behind that", x.blanks(), 8);
        row("triple", "1; 0 when it is there; `BAD` when a point is none; `FULL` when there are 40");
        row("triples", "how many triples the graph has");
        for (int n = 1; n <= 40; n++) {
            due("triple()", x.triple(-8, 1000, n), 1);
            due("triple() that is there", x.triple(-8, 1000, n), 0);
            due("triple() of a point that is none", x.triple(-9, 1000, n), CanonNames.BAD);
            due("triples()", x.triples(), n);
        }
        due("triple() when there are 40", x.triple(-8, 1000, 41), CanonNames.FULL);
        due("triples() behind that", x.triples(), 40);
        row("drop", "1; 0 when it is not there");
        due("drop()", x.drop(-8, 1000, 40), 1);
        due("drop() of one that is not there", x.drop(-8, 1000, 40), 0);
        due("drop() of a point that is none", x.drop(-9, 1000, 39), 0);
        due("triples() behind that", x.triples(), 39);
    }

    /** A ring of three: three of its six namings have THE FORM. */
    private static CanonNames ring() {
        CanonNames x = new CanonNames();
        for (int n = 1; n <= 3; n++) {
            due("blank()", x.blank(), n);
        }
        due("triple()", x.triple(-1, 7, -2) + x.triple(-2, 7, -3) + x.triple(-3, 7, -1), 3);
        return x;
    }

    private static void rowsOfNaming() {
        CanonNames x = ring();
        int[] numbers = {1, 3, 2};
        int[] form = {-3, 7, -2, -2, 7, -1, -1, 7, -3};
        int[] words = Edges.digest(Edges.laid(form));
        row("name", "how many namings have THE FORM as their row; -1 when there are more than `steps` namings");
        row("named", "the blank's number by the latest `name` that found one; `BAD` when there is none");
        due("name() of too few steps", x.name(5), -1);
        due("named() when none was found", x.named(1), CanonNames.BAD);
        due("name()", x.name(6), 3);
        due("name() of too few steps", x.name(5), -1);
        for (int b = 1; b <= 3; b++) {
            due("named(" + b + ")", x.named(b), numbers[b - 1]);
        }
        due("named(4)", x.named(4), CanonNames.BAD);
        row("form", "point `k` of triple `i` of THE FORM of that; 0 when there is none");
        for (int at = 0; at < form.length; at++) {
            due("form(" + at / 3 + ", " + at % 3 + ")", x.form(at / 3, at % 3), form[at]);
        }
        due("form(3, 0)", x.form(3, 0), 0);
        due("form(0, 3)", x.form(0, 3), 0);
        row("octet", "a byte of the digest of THE FORM of that; throws outside 0 .. 31");
        for (int i = 0; i < 32; i++) {
            due("octet(" + i + ")", x.octet(i), (byte) (words[i / 4] >> 24 - 8 * (i % 4)));
        }
        Check.octetThrows("README.md", x, -1);
        Check.octetThrows("README.md", x, 32);
    }

    private static void rowsOfHashes() {
        CanonNames x = ring();
        row("hash", "word `i` of the blank's hash in the graph as it is; 0 when there is none");
        row("rounds", "how many rounds were made for the hashes");
        row("first", "blank `i` of a group of the graph as it is; `BAD` when there is none");
        for (int i = 0; i < 8; i++) {
            due("hash(3, " + i + ")", x.hash(3, i), Edges.NO_BYTES[i]);
        }
        due("hash(4, 0)", x.hash(4, 0), 0);
        due("hash(3, 8)", x.hash(3, 8), 0);
        due("rounds()", x.rounds(), 1);
        for (int i = 0; i < 3; i++) {
            due("first(0, " + i + ")", x.first(0, i), i + 1);
        }
        due("first(0, 3)", x.first(0, 3), CanonNames.BAD);
        due("first(1, 0)", x.first(1, 0), CanonNames.BAD);
        due("a mark", x.triple(-2, 9, 9), 1);
        isTrue("hash(2, 0) of the graph as it is", x.hash(2, 0) != Edges.NO_BYTES[0]);
        due("rounds()", x.rounds(), 3);
        isTrue("first(2, 0) of the graph as it is", x.first(2, 0) > 0);
    }

    private static void rowsOfKept() {
        CanonNames x = ring();
        row("isomorphic", "1 when the graph becomes the kept one in some way, else 0; `BAD` when none is kept so");
        row("ways", "in how many ways it does; `BAD` when none is kept so");
        row("equal", "1 when the kept one is the very same, else 0; `BAD` when none is kept so");
        compare("none kept", x, CanonNames.BAD, CanonNames.BAD, CanonNames.BAD);
        row("keep", "the kept graph's number, from 0; `FULL` when there are 8");
        for (int n = 0; n < 8; n++) {
            due("keep()", x.keep(), n);
        }
        compare("an empty graph", x, 0, 0, 0);
        for (int n = 1; n <= 3; n++) {
            due("blank()", x.blank(), n);
        }
        due("triple()", x.triple(-1, 7, -2) + x.triple(-2, 7, -3) + x.triple(-3, 7, -1), 3);
        compare("the very same", x, 1, 3, 1);
        due("drop()", x.drop(-1, 7, -2) + x.drop(-2, 7, -3) + x.drop(-3, 7, -1), 3);
        due("triple()", x.triple(-2, 7, -1) + x.triple(-3, 7, -2) + x.triple(-1, 7, -3), 3);
        compare("the ring turned round", x, 1, 3, 0);
        due("keep() when there are 8", x.keep(), CanonNames.FULL);
        compare("the graph stays", x, 1, 3, 0);
    }

    private static void compare(String what, CanonNames x, int isomorphic, int ways, int equal) {
        due(what + ", isomorphic(0)", x.isomorphic(0), isomorphic);
        due(what + ", ways(0)", x.ways(0), ways);
        due(what + ", equal(0)", x.equal(0), equal);
    }

    private static void nothingLeftOut(String text) throws IOException {
        isTrue("a row that no test is about: " + ROWS.keySet(), ROWS.isEmpty());
        for (Method method : CanonNames.class.getDeclaredMethods()) {
            if (java.lang.reflect.Modifier.isPublic(method.getModifiers())) {
                isTrue("a call of " + method.getName() + " is shown", CALLED.contains(method.getName()));
            }
        }
        isTrue("how to run the tests", text.contains("\n.ci/run\n"));
        try (DirectoryStream<Path> tests = Files.newDirectoryStream(Path.of("src/test/java"), "*Test.java")) {
            for (Path test : tests) {
                String name = test.getFileName().toString().replace(".java", "");
                isTrue(name + " is told of", text.contains("`" + name + "`"));
            }
        }
    }
}
