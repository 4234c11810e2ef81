/** The boundary cases of promises 1 to 4, 16 and 17: what a graph takes, and what it refuses. */
public final class GraphEdgesTest {
    private static final int BAD = Edges.BAD;
    private static final int FULL = Edges.FULL;

    public static void main(String[] args) {
        Edges.test("Promise 1", "A graph without blanks and triples", GraphEdgesTest::promise1Empty);
        Edges.test("Promise 1", "no graphs are kept", GraphEdgesTest::promise1NoneKept);
        Edges.test("Promise 1", "nothing was named", GraphEdgesTest::promise1NothingNamed);
        Edges.test("Promise 2", "A blank more: its number.", GraphEdgesTest::promise2Number);
        Edges.test("Promise 2", "FULL.", GraphEdgesTest::promise2Full);
        Edges.test("Promise 3", "A triple more: 1", GraphEdgesTest::promise3More);
        Edges.test("Promise 3", "0 when it is there.", GraphEdgesTest::promise3There);
        Edges.test("Promise 3", "BAD when a point is none", GraphEdgesTest::promise3Bad);
        Edges.test("Promise 3", "BAD when a point is none", GraphEdgesTest::promise3BadLeavesAll);
        Edges.test("Promise 3", "FULL.", GraphEdgesTest::promise3Full);
        Edges.test("Promise 4", "A triple goes: 1", GraphEdgesTest::promise4Goes);
        Edges.test("Promise 4", "0 when it is not there.", GraphEdgesTest::promise4NotThere);
        Edges.test("Promise 4", "0 when it is not there.", GraphEdgesTest::promise4NoPoint);
        Edges.test("Promise 16", "How many triples there are.", GraphEdgesTest::promise16Count);
        Edges.test("Promise 17", "How many blanks there are.", GraphEdgesTest::promise17Count);
        Check.end("GraphEdgesTest");
    }

    private static void due(String what, long got, long want) {
        Edges.due(what, got, want);
    }

    private static void promise1Empty() {
        CanonNames x = new CanonNames();
        due("blanks()", x.blanks(), 0);
        due("triples()", x.triples(), 0);
        due("rounds()", x.rounds(), 1);
        due("hash(1, 0)", x.hash(1, 0), 0);
        due("first(0, 0)", x.first(0, 0), BAD);
        due("no blank to tell", x.triple(-1, 1, 1), BAD);
        due("no triple to drop", x.drop(1, 1, 1), 0);
        due("its one naming is more than 0", x.name(0), -1);
        due("its one naming", x.name(1), 1);
        due("the first blank", x.blank(), 1);
        due("the first triple", x.triple(-1, -1, -1), 1);
        due("another new object", new CanonNames().blanks(), 0);
        due("another new object", new CanonNames().triples(), 0);
    }

    private static void promise1NoneKept() {
        CanonNames x = new CanonNames();
        for (int other : Edges.with(Edges.FAR, -1, 0, 1, 7, 8)) {
            due("isomorphic(" + other + ")", x.isomorphic(other), BAD);
            due("ways(" + other + ")", x.ways(other), BAD);
            due("equal(" + other + ")", x.equal(other), BAD);
        }
        due("the first kept one's number", x.keep(), 0);
        due("then there is one", x.equal(0), 1);
    }

    private static void promise1NothingNamed() {
        CanonNames x = new CanonNames();
        for (int number : Edges.with(Edges.FAR, -1, 0, 1, 8, 9)) {
            due("named(" + number + ")", x.named(number), BAD);
            due("form(" + number + ", 0)", x.form(number, 0), 0);
            due("form(0, " + number + ")", x.form(0, number), 0);
        }
        Edges.digestIs("a new object", x, Edges.NO_BYTES);
        due("octet(-1)", Edges.octet(x, -1), Edges.THROWS);
        due("octet(32)", Edges.octet(x, 32), Edges.THROWS);
    }

    private static void promise2Number() {
        CanonNames x = new CanonNames();
        for (int graph = 0; graph < 2; graph++) {
            for (int n = 1; n <= 8; n++) {
                due("blank " + n + " of graph " + graph, x.blank(), n);
                due("blanks() behind it", x.blanks(), n);
            }
            due("keep()", x.keep(), graph);
        }
    }

    private static void promise2Full() {
        CanonNames x = Edges.withBlanks(7);
        due("the 8th", x.blank(), 8);
        due("the 9th", x.blank(), FULL);
        due("blanks() behind it", x.blanks(), 8);
        due("the 10th", x.blank(), FULL);
        due("the 8th is a point", x.triple(-8, 1, 1), 1);
        due("a 9th is none", x.triple(-9, 1, 1), BAD);
        due("a triple goes", x.drop(-8, 1, 1), 1);
        due("no room by that", x.blank(), FULL);
        due("keep()", x.keep(), 0);
        due("room in a new graph", x.blank(), 1);
        Edges.leaves("the 9th", y -> Edges.blanks(y, 8), CanonNames::blank, FULL);
        Edges.leaves("the 9th", Edges::brimful, CanonNames::blank, FULL);
    }

    private static void promise3More() {
        CanonNames x = new CanonNames();
        for (int n = 1; n <= 40; n++) {
            due("triple " + n, x.triple(n, 1, 1), 1);
            due("triples() behind it", x.triples(), n);
        }
        due("name(1)", x.name(1), 1);
        for (int n = 1; n <= 40; n++) {
            due("first point of triple " + n, x.form(n - 1, 0), n);
        }
        // A triple that differs in one place alone, by the least step, is another one.
        CanonNames y = Edges.withBlanks(2);
        Edges.triples(y, 2, 2, 2, 1, 2, 2, 3, 2, 2, 2, 1, 2, 2, 3, 2, 2, 2, 1, 2, 2, 3);
        Edges.triples(y, -1, -1, -1, -2, -1, -1, -1, -2, -1, -1, -1, -2, 1, -1, -1, -1, 1, -1, -1, -1, 1);
        due("triples()", y.triples(), 14);
    }

    private static void promise3There() {
        CanonNames x = new CanonNames();
        due("the first time", x.triple(1, 1000, 1), 1);
        due("the second time", x.triple(1, 1000, 1), 0);
        due("the third time", x.triple(1, 1000, 1), 0);
        due("triples()", x.triples(), 1);
        due("it goes", x.drop(1, 1000, 1), 1);
        due("again the first time", x.triple(1, 1000, 1), 1);
        due("keep()", x.keep(), 0);
        due("it is not in the new graph", x.triple(1, 1000, 1), 1);
        CanonNames full = Edges.made(Edges::brimful);
        for (int b = 1; b <= 8; b++) {
            due("there, in a full graph", full.triple(-b, 1, -(b % 8 + 1)), 0);
            due("there, in a full graph", full.triple(b, 1, 1), 0);
        }
        due("triples()", full.triples(), 40);
        Edges.leaves("there", Edges::busy, y -> y.triple(5, 6, 7), 0);
        Edges.leaves("there", Edges::busy, y -> y.triple(-3, 1, -2), 0);
        Edges.leaves("there, in a full graph", Edges::brimful, y -> y.triple(4, 5, -8), 0);
    }

    private static void promise3Bad() {
        int[] sizes = {0, 1, 7, 8};
        for (int blanks : sizes) {
            CanonNames x = Edges.withBlanks(blanks);
            int[] none = Edges.with(Edges.FAR, 0, 1001, -blanks - 1, -9, -1000, -1001);
            for (int point : none) {
                due(blanks + " blanks, first " + point, x.triple(point, 1, 1), BAD);
                due(blanks + " blanks, second " + point, x.triple(1, point, 1), BAD);
                due(blanks + " blanks, third " + point, x.triple(1, 1, point), BAD);
                due(blanks + " blanks, all three " + point, x.triple(point, point, point), BAD);
            }
            due("triples()", x.triples(), 0);
            int last = blanks == 0 ? 1 : -blanks;
            Edges.triples(x, last, 1, 1000, 1000, last, 1, 1, 1000, last);
        }
    }

    private static void promise3BadLeavesAll() {
        Edges.leaves("the name 0", Edges::busy, x -> x.triple(0, 1, 1), BAD);
        Edges.leaves("the name 1001", Edges::busy, x -> x.triple(1, 1001, 1), BAD);
        Edges.leaves("a 4th blank of three", Edges::busy, x -> x.triple(1, 1, -4), BAD);
        Edges.leaves("the least int", Edges::busy, x -> x.triple(Integer.MIN_VALUE, -1, 1), BAD);
        Edges.leaves("the greatest int", Edges::busy, x -> x.triple(-1, -1, Integer.MAX_VALUE), BAD);
        // Where both would do, a point that is none is said: the graph could not take it anyway.
        Edges.leaves("the name 0, in a full graph", Edges::brimful, x -> x.triple(0, 1, 1), BAD);
        Edges.leaves("a 9th blank, in a full graph", Edges::brimful, x -> x.triple(1, -9, 1), BAD);
    }

    private static void promise3Full() {
        CanonNames x = new CanonNames();
        Edges.fill(x, 39);
        due("the 40th", x.triple(40, 1, 1), 1);
        due("the 41st", x.triple(41, 1, 1), FULL);
        due("the 41st again", x.triple(41, 1, 1), FULL);
        due("a least one", x.triple(1, 1, 2), FULL);
        due("triples()", x.triples(), 40);
        due("one goes", x.drop(20, 1, 1), 1);
        due("the 40th", x.triple(41, 1, 1), 1);
        due("the 41st", x.triple(20, 1, 1), FULL);
        due("a blank more, though full", x.blank(), 1);
        due("of that, too", x.triple(-1, 1, 1), FULL);
        due("keep()", x.keep(), 0);
        Edges.fill(x, 40);
        due("the 41st of a new graph", x.triple(41, 1, 1), FULL);
        Edges.leaves("the 41st", y -> Edges.fill(y, 40), y -> y.triple(41, 1, 1), FULL);
        Edges.leaves("the 41st", Edges::brimful, y -> y.triple(-8, -8, -8), FULL);
        Edges.leaves("the 41st", Edges::brimful, y -> y.triple(1000, 1000, 1000), FULL);
    }

    /** Each of forty goes in turn, the first and the last one too; the others are read back. */
    private static void promise4Goes() {
        for (int gone = 1; gone <= 40; gone++) {
            CanonNames x = new CanonNames();
            Edges.fill(x, 40);
            due("triple " + gone + " goes", x.drop(gone, 1, 1), 1);
            due("triples()", x.triples(), 39);
            due("name(1)", x.name(1), 1);
            for (int i = 0; i < 39; i++) {
                due("without triple " + gone + ", form(" + i + ", 0)", x.form(i, 0), i + 1 < gone ? i + 1 : i + 2);
            }
            due("without triple " + gone + ", form(39, 0)", x.form(39, 0), 0);
            due("it comes back", x.triple(gone, 1, 1), 1);
        }
        CanonNames x = Edges.withBlanks(8);
        Edges.triples(x, -8, -8, -8);
        due("the only one goes", x.drop(-8, -8, -8), 1);
        due("triples()", x.triples(), 0);
        due("blanks()", x.blanks(), 8);
        due("all blanks are alike again", x.name(40320), 40320);
    }

    private static void promise4NotThere() {
        CanonNames x = new CanonNames();
        due("an empty graph", x.drop(1, 1, 1), 0);
        due("triples()", x.triples(), 0);
        Edges.triples(x, 2, 2, 2);
        int[] near = {1, 2, 2, 3, 2, 2, 2, 1, 2, 2, 3, 2, 2, 2, 1, 2, 2, 3};
        for (int i = 0; i < near.length; i += 3) {
            due("one place differs", x.drop(near[i], near[i + 1], near[i + 2]), 0);
        }
        due("the first time", x.drop(2, 2, 2), 1);
        due("the second time", x.drop(2, 2, 2), 0);
        due("triples()", x.triples(), 0);
        Edges.triples(x, 2, 2, 2);
        due("keep()", x.keep(), 0);
        due("it is in the kept graph alone", x.drop(2, 2, 2), 0);
        Edges.leaves("not there", Edges::busy, y -> y.drop(-1, 1, -2), 0);
        Edges.leaves("not there, in an empty graph", y -> { }, y -> y.drop(1, 1, 1), 0);
        Edges.leaves("not there, in a full graph", Edges::brimful, y -> y.drop(-8, -8, -8), 0);
    }

    private static void promise4NoPoint() {
        CanonNames x = Edges.withBlanks(1);
        // Triples that another number's lower bits, or what they carry over, could be taken for.
        Edges.triples(x, 1, 1, 1, 1, 2, 1, 2, 1, 1, -1, -1, -1, 1, -1, 1, 1000, 1000, 1000);
        for (int point : Edges.with(Edges.FAR, 0, 1001, -2, -9)) {
            due("first " + point, x.drop(point, 1, 1), 0);
            due("second " + point, x.drop(1, point, 1), 0);
            due("third " + point, x.drop(1, 1, point), 0);
            due("all three " + point, x.drop(point, point, point), 0);
        }
        due("triples()", x.triples(), 6);
        Edges.leaves("the name 0", Edges::busy, y -> y.drop(0, 6, 7), 0);
        Edges.leaves("the name 1001", Edges::busy, y -> y.drop(5, 1001, 7), 0);
        Edges.leaves("a 4th blank of three", Edges::busy, y -> y.drop(-4, 1, -2), 0);
        Edges.leaves("the least int", Edges::busy, y -> y.drop(5, 6, Integer.MIN_VALUE), 0);
        Edges.leaves("the greatest int", Edges::busy, y -> y.drop(5, 6, Integer.MAX_VALUE), 0);
    }

    private static void promise16Count() {
        CanonNames x = new CanonNames();
        due("none", x.triples(), 0);
        due("drop() of none", x.drop(1, 1, 1), 0);
        due("not below none", x.triples(), 0);
        Edges.fill(x, 40);
        due("the most", x.triples(), 40);
        due("the 41st", x.triple(41, 1, 1), FULL);
        due("not above the most", x.triples(), 40);
        for (int n = 39; n >= 0; n--) {
            due("one goes", x.drop(n + 1, 1, 1), 1);
            due("one less", x.triples(), n);
        }
        Edges.fill(x, 2);
        due("keep()", x.keep(), 0);
        due("none in a new graph", x.triples(), 0);
        Edges.leaves("triples()", Edges::busy, CanonNames::triples, 3);
        Edges.leaves("triples()", Edges::brimful, CanonNames::triples, 40);
    }

    private static void promise17Count() {
        CanonNames x = new CanonNames();
        due("none", x.blanks(), 0);
        due("a triple of a blank that is none", x.triple(-1, 1, 1), BAD);
        due("that makes none", x.blanks(), 0);
        Edges.blanks(x, 8);
        due("the most", x.blanks(), 8);
        due("the 9th", x.blank(), FULL);
        due("not above the most", x.blanks(), 8);
        Edges.triples(x, -8, 1, 1);
        due("its only triple goes", x.drop(-8, 1, 1), 1);
        due("the blank stays", x.blanks(), 8);
        due("keep()", x.keep(), 0);
        due("none in a new graph", x.blanks(), 0);
        Edges.leaves("blanks()", Edges::busy, CanonNames::blanks, 3);
        Edges.leaves("blanks()", Edges::brimful, CanonNames::blanks, 8);
    }
}
