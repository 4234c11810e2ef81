import java.util.function.Consumer;

/** The boundary cases of promises 12 to 15: kept graphs, and how the graph compares with them. */
public final class KeptEdgesTest {
    private static final int BAD = Edges.BAD;
    private static final int FULL = Edges.FULL;

    public static void main(String[] args) {
        Edges.test("Promise 12", "a new one without blanks and triples begins", KeptEdgesTest::promise12Begins);
        Edges.test("Promise 12", "The graph is kept", KeptEdgesTest::promise12EmptyAndFull);
        Edges.test("Promise 12", "the kept one's number, from 0.", KeptEdgesTest::promise12Number);
        Edges.test("Promise 12", "FULL when there are 8.", KeptEdgesTest::promise12Full);
        Edges.test("Promise 12", "FULL when there are 8.", KeptEdgesTest::promise12FullLeavesKept);
        Edges.test("Promise 13", "there are as many: 1 or 0.", KeptEdgesTest::promise13AsMany);
        Edges.test("Promise 13", "each one another one", KeptEdgesTest::promise13EachAnother);
        Edges.test("Promise 13", "when its blanks get that one's blanks in some way", KeptEdgesTest::promise13NoBlanks);
        Edges.test("Promise 13", "BAD when there is no such kept one.", KeptEdgesTest::promise13Bad);
        Edges.test("Promise 14", "In how many ways that can be done", KeptEdgesTest::promise14HowMany);
        Edges.test("Promise 14", "(0 when it can not)", KeptEdgesTest::promise14CanNot);
        Edges.test("Promise 14", "BAD.", KeptEdgesTest::promise14Bad);
        Edges.test("Promise 15", "Whether a kept one has the very same blanks and triples: 1 or 0", KeptEdgesTest::promise15VerySame);
        Edges.test("Promise 15", "BAD.", KeptEdgesTest::promise15Bad);
        Check.end("KeptEdgesTest");
    }

    private static void due(String what, long got, long want) {
        Edges.due(what, got, want);
    }

    /** An object whose graph is the one told second; the one told first is kept as 0. */
    private static CanonNames pair(Consumer<CanonNames> kept, Consumer<CanonNames> now) {
        CanonNames x = Edges.made(kept);
        due("keep()", x.keep(), 0);
        now.accept(x);
        return x;
    }

    private static void compare(String what, CanonNames x, int isomorphic, int ways, int equal) {
        due(what + ", isomorphic(0)", x.isomorphic(0), isomorphic);
        due(what + ", ways(0)", x.ways(0), ways);
        due(what + ", equal(0)", x.equal(0), equal);
    }

    private static Consumer<CanonNames> blanks(int n) {
        return x -> Edges.blanks(x, n);
    }

    private static Consumer<CanonNames> graph(int blanks, int... points) {
        return x -> {
            Edges.blanks(x, blanks);
            Edges.triples(x, points);
        };
    }

    /** Eight blanks in a ring, and forty triples. */
    private static void full(CanonNames x) {
        Edges.blanks(x, 8);
        for (int b = 1; b <= 8; b++) {
            int next = b % 8 + 1;
            Edges.triples(x, -b, 1, -next, -next, 2, -b, -b, -b, 3, 4, 5, -b, b, 1, 1);
        }
    }

    private static void promise12Begins() {
        CanonNames x = Edges.made(KeptEdgesTest::full);
        due("rounds()", x.rounds(), 1);
        due("name()", x.name(40320), 8);
        int last = x.form(39, 0);
        due("keep()", x.keep(), 0);
        due("blanks()", x.blanks(), 0);
        due("triples()", x.triples(), 0);
        due("rounds()", x.rounds(), 1);
        due("hash(1, 0)", x.hash(1, 0), 0);
        due("first(0, 0)", x.first(0, 0), BAD);
        due("its blanks are not the kept one's", x.triple(-1, 1, 1), BAD);
        due("its triples are not the kept one's", x.drop(1, 1, 1), 0);
        due("what was named stays", x.named(8) > 0 ? 1 : 0, 1);
        due("what was named stays", x.form(39, 0), last);
        due("its first blank", x.blank(), 1);
        due("its one naming", x.name(1), 1);
    }

    private static void promise12EmptyAndFull() {
        CanonNames empty = pair(x -> { }, x -> { });
        compare("an empty graph was kept", empty, 1, 1, 1);
        CanonNames full = pair(KeptEdgesTest::full, KeptEdgesTest::full);
        compare("a full graph was kept", full, 1, 8, 1);
        due("a triple goes", full.drop(8, 1, 1), 1);
        compare("the kept one does not change with the graph", full, 0, 0, 0);
    }

    private static void promise12Number() {
        CanonNames x = new CanonNames();
        for (int i = 0; i < 8; i++) {
            due("number " + i + " before it is kept", x.equal(i), BAD);
            due("keep()", x.keep(), i);
            due("number " + i, x.equal(i), 1);
        }
        due("number 8", x.equal(8), BAD);
    }

    private static void promise12Full() {
        CanonNames x = new CanonNames();
        for (int i = 0; i < 7; i++) {
            due("keep()", x.keep(), i);
        }
        Edges.blanks(x, 2);
        due("the 8th", x.keep(), 7);
        Edges.blanks(x, 3);
        Edges.triples(x, -3, 1, 1);
        due("the 9th", x.keep(), FULL);
        due("the graph's blanks stay", x.blanks(), 3);
        due("the graph's triples stay", x.triple(-3, 1, 1), 0);
        due("the 9th again", x.keep(), FULL);
        due("none is kept by that", x.equal(8), BAD);
        due("the graph goes on", x.blank(), 4);
        Edges.leaves("the 9th", Edges::brimful, CanonNames::keep, FULL);
        Edges.leaves("the 9th, an empty graph", KeptEdgesTest::keepEight, CanonNames::keep, FULL);
    }

    private static void keepEight(CanonNames x) {
        for (int i = 0; i < 8; i++) {
            due("keep()", x.keep(), i);
        }
    }

    /** The graphs kept have one more blank and triple each; they are read back by making them again. */
    private static void promise12FullLeavesKept() {
        CanonNames x = new CanonNames();
        for (int i = 0; i < 8; i++) {
            Edges.blanks(x, i);
            Edges.fill(x, i);
            due("keep()", x.keep(), i);
        }
        due("the 9th", x.keep(), FULL);
        for (int i = 0; i < 8; i++) {
            for (int other = 0; other < 8; other++) {
                due("graph " + i + ", equal(" + other + ")", x.equal(other), i == other ? 1 : 0);
            }
            due("the 9th", x.keep(), FULL);
            due("blank()", x.blank(), i + 1);
            due("triple()", x.triple(i + 1, 1, 1), 1);
        }
    }

    private static void promise13AsMany() {
        for (int kept = 0; kept <= 8; kept++) {
            int least = Math.max(kept - 1, 0);
            CanonNames x = pair(blanks(kept), blanks(least));
            due(kept + " blanks kept, " + least + " now", x.isomorphic(0), kept == least ? 1 : 0);
            for (int now = least + 1; now <= Math.min(kept + 1, 8); now++) {
                due("blank()", x.blank(), now);
                due(kept + " blanks kept, " + now + " now", x.isomorphic(0), kept == now ? 1 : 0);
            }
        }
        // Blanks without triples count too, and so do triples without blanks.
        CanonNames x = pair(graph(2, -1, 1, 1), graph(1, -1, 1, 1));
        due("a blank less", x.isomorphic(0), 0);
        due("blank()", x.blank(), 2);
        due("as many", x.isomorphic(0), 1);
        due("blank()", x.blank(), 3);
        due("a blank more", x.isomorphic(0), 0);
        CanonNames full = pair(KeptEdgesTest::full, KeptEdgesTest::full);
        due("40 triples and 40", full.isomorphic(0), 1);
        due("one goes", full.drop(1, 1, 1), 1);
        due("40 triples and 39", full.isomorphic(0), 0);
        Edges.triples(full, 1, 1, 9);
        due("40 triples and 40, one of other names", full.isomorphic(0), 0);
        Edges.leaves("1", Edges::busy, y -> y.isomorphic(0), 1);
        Edges.leaves("0", Edges::busy, y -> y.isomorphic(1), 0);
        Edges.leaves("0", Edges::brimful, y -> y.isomorphic(7), 0);
        Edges.leaves("1, of empty graphs", KeptEdgesTest::keepEight, y -> y.isomorphic(7), 1);
    }

    /** If two blanks could get the same one, the first graph would become the second. */
    private static void promise13EachAnother() {
        CanonNames x = pair(graph(2, -1, 1, -1), graph(2, -1, 1, -2));
        compare("both blanks to one", x, 0, 0, 0);
        CanonNames y = pair(graph(2, -1, 1, -2), graph(2, -1, 1, -1));
        compare("one blank to both", y, 0, 0, 0);
        CanonNames z = pair(graph(3, -1, 1, -2, -2, 2, -3), graph(3, -1, 1, -2, -3, 2, -1));
        compare("a chain, and one the other way round", z, 0, 0, 0);
        CanonNames turned = pair(graph(3, -1, 1, -2, -2, 2, -3), graph(3, -3, 1, -1, -1, 2, -2));
        compare("a chain of other blanks", turned, 1, 1, 0);
        // Names are no blanks: they stay what they are.
        CanonNames named = pair(graph(1, -1, 1, 1), graph(1, -1, 1, 2));
        compare("another name", named, 0, 0, 0);
        // All hashes are alike here: one ring of six, and two of three.
        CanonNames rings = pair(graph(6, -1, 1, -2, -2, 1, -3, -3, 1, -4, -4, 1, -5, -5, 1, -6, -6, 1, -1),
                graph(6, -1, 1, -2, -2, 1, -3, -3, 1, -1, -4, 1, -5, -5, 1, -6, -6, 1, -4));
        compare("a ring of six, and two rings", rings, 0, 0, 0);
        CanonNames most = pair(graph(8, -1, 1, -2, -2, 1, -3, -3, 1, -4, -4, 1, -5, -5, 1, -6, -6, 1, -7, -7, 1, -8, -8, 1, -1),
                graph(8, -1, 1, -2, -2, 1, -3, -3, 1, -4, -4, 1, -1, -5, 1, -6, -6, 1, -7, -7, 1, -8, -8, 1, -5));
        compare("a ring of eight, and two rings", most, 0, 0, 0);
    }

    /** Without blanks there is one way, which changes nothing: only the very same graph becomes the kept one. */
    private static void promise13NoBlanks() {
        compare("the same triple", pair(graph(0, 1, 2, 3), graph(0, 1, 2, 3)), 1, 1, 1);
        compare("another name", pair(graph(0, 1, 2, 3), graph(0, 1, 2, 4)), 0, 0, 0);
        compare("a triple less", pair(graph(0, 1, 2, 3), graph(0)), 0, 0, 0);
        compare("a triple more", pair(graph(0), graph(0, 1, 2, 3)), 0, 0, 0);
        CanonNames full = pair(x -> Edges.fill(x, 40), x -> Edges.fill(x, 40));
        compare("forty triples", full, 1, 1, 1);
        for (int i = 1; i <= 40; i++) {
            due("triple " + i + " goes", full.drop(i, 1, 1), 1);
            Edges.triples(full, i, 1, 2);
            compare("triple " + i + " of forty has another name", full, 0, 0, 0);
            due("it goes", full.drop(i, 1, 2), 1);
            Edges.triples(full, i, 1, 1);
        }
    }

    private static void promise13Bad() {
        CanonNames x = new CanonNames();
        for (int kept = 0; kept <= 8; kept++) {
            for (int other : Edges.with(Edges.FAR, -1, -8, kept, kept + 1, 8, 9)) {
                due(kept + " kept, isomorphic(" + other + ")", x.isomorphic(other), BAD);
            }
            due(kept + " kept, isomorphic(" + (kept - 1) + ")", x.isomorphic(kept - 1), kept == 0 ? BAD : 1);
            due("keep()", x.keep(), kept < 8 ? kept : FULL);
        }
        Edges.leaves("number 2 of two", Edges::busy, y -> y.isomorphic(2), BAD);
        Edges.leaves("number -1", Edges::busy, y -> y.isomorphic(-1), BAD);
        Edges.leaves("number 8 of eight", Edges::brimful, y -> y.isomorphic(8), BAD);
        Edges.leaves("the least int", Edges::brimful, y -> y.isomorphic(Integer.MIN_VALUE), BAD);
        Edges.leaves("the greatest int", Edges::brimful, y -> y.isomorphic(Integer.MAX_VALUE), BAD);
        Edges.leaves("none kept", blanks(3), y -> y.isomorphic(0), BAD);
    }

    private static void promise14HowMany() {
        int product = 1;
        for (int n = 0; n <= 8; n++) {
            product *= Math.max(n, 1);
            CanonNames x = pair(blanks(n), blanks(n));
            due(n + " blanks without triples", x.ways(0), product);
        }
        due("the most", product, 40320);
        CanonNames one = pair(graph(8, -1, 1, -2, -2, 1, -3, -3, 1, -4, -4, 1, -5, -5, 1, -6, -6, 1, -7, -7, 1, -8),
                graph(8, -8, 1, -7, -7, 1, -6, -6, 1, -5, -5, 1, -4, -4, 1, -3, -3, 1, -2, -2, 1, -1));
        due("chains of eight", one.ways(0), 1);
        CanonNames full = pair(KeptEdgesTest::full, KeptEdgesTest::full);
        due("eight blanks and forty triples", full.ways(0), 8);
        CanonNames names = pair(x -> Edges.fill(x, 40), x -> Edges.fill(x, 40));
        due("forty triples of names", names.ways(0), 1);
        Edges.leaves("one way", Edges::busy, y -> y.ways(0), 1);
        Edges.leaves("all ways", y -> pairOfEight(y), y -> y.ways(0), 40320);
    }

    private static void pairOfEight(CanonNames x) {
        Edges.blanks(x, 8);
        due("keep()", x.keep(), 0);
        Edges.blanks(x, 8);
    }

    private static void promise14CanNot() {
        due("no blanks, one kept", pair(blanks(1), blanks(0)).ways(0), 0);
        due("one blank, none kept", pair(blanks(0), blanks(1)).ways(0), 0);
        due("seven blanks, eight kept", pair(blanks(8), blanks(7)).ways(0), 0);
        due("eight blanks, seven kept", pair(blanks(7), blanks(8)).ways(0), 0);
        due("a triple less", pair(graph(1, -1, 1, 1), blanks(1)).ways(0), 0);
        due("a triple more", pair(blanks(1), graph(1, -1, 1, 1)).ways(0), 0);
        due("another name", pair(graph(1, -1, 1, 999), graph(1, -1, 1, 1000)).ways(0), 0);
        due("another place", pair(graph(1, -1, 1, 1), graph(1, 1, -1, 1)).ways(0), 0);
        Edges.leaves("in no way", Edges::busy, y -> y.ways(1), 0);
        Edges.leaves("in no way", Edges::brimful, y -> y.ways(7), 0);
    }

    private static void promise14Bad() {
        CanonNames x = new CanonNames();
        for (int kept = 0; kept <= 8; kept++) {
            for (int other : Edges.with(Edges.FAR, -1, -8, kept, kept + 1, 8, 9)) {
                due(kept + " kept, ways(" + other + ")", x.ways(other), BAD);
            }
            due(kept + " kept, ways(" + (kept - 1) + ")", x.ways(kept - 1), kept == 0 ? BAD : 1);
            due("keep()", x.keep(), kept < 8 ? kept : FULL);
        }
        Edges.leaves("number 2 of two", Edges::busy, y -> y.ways(2), BAD);
        Edges.leaves("number -1", Edges::busy, y -> y.ways(-1), BAD);
        Edges.leaves("number 8 of eight", Edges::brimful, y -> y.ways(8), BAD);
        Edges.leaves("the least int", Edges::brimful, y -> y.ways(Integer.MIN_VALUE), BAD);
        Edges.leaves("the greatest int", Edges::brimful, y -> y.ways(Integer.MAX_VALUE), BAD);
        Edges.leaves("none kept", blanks(3), y -> y.ways(0), BAD);
    }

    private static void promise15VerySame() {
        compare("empty graphs", pair(blanks(0), blanks(0)), 1, 1, 1);
        due("no blanks, one kept", pair(blanks(1), blanks(0)).equal(0), 0);
        due("one blank, none kept", pair(blanks(0), blanks(1)).equal(0), 0);
        due("eight blanks, eight kept", pair(blanks(8), blanks(8)).equal(0), 1);
        due("seven blanks, eight kept", pair(blanks(8), blanks(7)).equal(0), 0);
        due("another order of making", pair(graph(1, 1, 2, 3, -1, 1, 1), graph(1, -1, 1, 1, 1, 2, 3)).equal(0), 1);
        due("the other blank", pair(graph(2, -1, 1, 1), graph(2, -2, 1, 1)).equal(0), 0);
        due("another first point", pair(graph(0, 2, 2, 2), graph(0, 1, 2, 2)).equal(0), 0);
        due("another second point", pair(graph(0, 2, 2, 2), graph(0, 2, 1, 2)).equal(0), 0);
        due("another third point", pair(graph(0, 2, 2, 2), graph(0, 2, 2, 1)).equal(0), 0);
        CanonNames full = pair(x -> Edges.fill(x, 40), x -> Edges.fill(x, 39));
        due("39 triples, 40 kept", full.equal(0), 0);
        Edges.triples(full, 40, 1, 2);
        due("the 40th is another one", full.equal(0), 0);
        due("it goes", full.drop(40, 1, 2), 1);
        Edges.triples(full, 40, 1, 1);
        due("all 40", full.equal(0), 1);
        due("the first goes", full.drop(1, 1, 1), 1);
        Edges.triples(full, 41, 1, 1);
        due("the first is another one", full.equal(0), 0);
        Edges.leaves("0, though isomorphic", Edges::busy, y -> y.equal(0), 0);
        Edges.leaves("1", KeptEdgesTest::keepEight, y -> y.equal(7), 1);
    }

    private static void promise15Bad() {
        CanonNames x = new CanonNames();
        for (int kept = 0; kept <= 8; kept++) {
            for (int other : Edges.with(Edges.FAR, -1, -8, kept, kept + 1, 8, 9)) {
                due(kept + " kept, equal(" + other + ")", x.equal(other), BAD);
            }
            due(kept + " kept, equal(" + (kept - 1) + ")", x.equal(kept - 1), kept == 0 ? BAD : 1);
            due("keep()", x.keep(), kept < 8 ? kept : FULL);
        }
        Edges.leaves("number 2 of two", Edges::busy, y -> y.equal(2), BAD);
        Edges.leaves("number -1", Edges::busy, y -> y.equal(-1), BAD);
        Edges.leaves("number 8 of eight", Edges::brimful, y -> y.equal(8), BAD);
        Edges.leaves("the least int", Edges::brimful, y -> y.equal(Integer.MIN_VALUE), BAD);
        Edges.leaves("the greatest int", Edges::brimful, y -> y.equal(Integer.MAX_VALUE), BAD);
        Edges.leaves("none kept", blanks(3), y -> y.equal(0), BAD);
    }
}
