/** The boundary cases of promises 5 to 8: what is named, and how this is read. */
public final class NamingEdgesTest {
    private static final int BAD = Edges.BAD;
    private static final long INT_WRAP = 1L << 32;

    public static void main(String[] args) {
        Edges.test("Promise 5", "how many namings have THE FORM as their row.", NamingEdgesTest::promise5HowMany);
        Edges.test("Promise 5", "-1 when there are more than steps namings", NamingEdgesTest::promise5Steps);
        Edges.test("Promise 5", "-1 when there are more than steps namings", NamingEdgesTest::promise5StepsOfGroups);
        Edges.test("Promise 5", "(what was named before stays)", NamingEdgesTest::promise5Stays);
        Edges.test("Promise 6", "A blank's number by the latest name() that found one", NamingEdgesTest::promise6Latest);
        Edges.test("Promise 6", "BAD when there was none", NamingEdgesTest::promise6NoneYet);
        Edges.test("Promise 6", "or it had no such blank.", NamingEdgesTest::promise6NoSuchBlank);
        Edges.test("Promise 7", "Point k (0 .. 2) of triple i of THE FORM of it", NamingEdgesTest::promise7Ends);
        Edges.test("Promise 7", "0 when there is none.", NamingEdgesTest::promise7NoneYet);
        Edges.test("Promise 7", "0 when there is none.", NamingEdgesTest::promise7NoSuchPoint);
        Edges.test("Promise 8", "as a byte with sign", NamingEdgesTest::promise8Sign);
        Edges.test("Promise 8", "the digest of no bytes when there was none.", NamingEdgesTest::promise8NoneYet);
        Edges.test("Promise 8", "There are octets 0 .. 31 only.", NamingEdgesTest::promise8Only);
        Check.end("NamingEdgesTest");
    }

    private static void due(String what, long got, long want) {
        Edges.due(what, got, want);
    }

    private static void promise5HowMany() {
        CanonNames x = new CanonNames();
        due("an empty graph", x.name(1), 1);
        due("that leaves it empty", x.blanks() + x.triples(), 0);
        int product = 1;
        for (int n = 1; n <= 8; n++) {
            due("blank()", x.blank(), n);
            product *= n;
            due(n + " blanks without triples", x.name(product), product);
        }
        due("the most", product, 40320);
        // A chain leaves but one.
        for (int b = 1; b < 8; b++) {
            Edges.triples(x, -b, 1, -b - 1);
        }
        due("a chain of eight", x.name(1), 1);
        due("that leaves its blanks", x.blanks(), 8);
        due("that leaves its triples", x.triples(), 7);
        CanonNames names = new CanonNames();
        Edges.fill(names, 40);
        due("forty triples of names", names.name(1), 1);
        CanonNames full = Edges.made(Edges::brimful);
        due("eight blanks and forty triples", full.name(40320), 8);
    }

    /** So many blanks without triples are one group: their namings are 1, 1, 2, 6, 24, .. */
    private static void promise5Steps() {
        long product = 1;
        for (int n = 0; n <= 8; n++) {
            product *= Math.max(n, 1);
            CanonNames x = Edges.withBlanks(n);
            long[] few = {
                product - 1, 0, -1, -product, Integer.MIN_VALUE, -INT_WRAP, -INT_WRAP + product, -INT_WRAP + 50000,
                Long.MIN_VALUE, Long.MIN_VALUE + 1, Long.MIN_VALUE + product
            };
            for (long steps : few) {
                due(n + " blanks, name(" + steps + ")", x.name(steps), -1);
            }
            due(n + " blanks, nothing is named by that", x.named(1), BAD);
            long[] enough = {
                product, product + 1, Integer.MAX_VALUE, Integer.MAX_VALUE + 1L, INT_WRAP - 1, INT_WRAP, INT_WRAP + 1,
                Long.MAX_VALUE - 1, Long.MAX_VALUE
            };
            for (long steps : enough) {
                due(n + " blanks, name(" + steps + ")", x.name(steps), product);
            }
        }
    }

    /** Namings are counted by groups, whatever THE FORM leaves of them. */
    private static void promise5StepsOfGroups() {
        CanonNames x = Edges.withBlanks(5);
        Edges.triples(x, -2, 1, 1, -4, 1, 1);
        due("groups of 2 and 3", x.name(11), -1);
        due("groups of 2 and 3", x.name(12), 12);
        CanonNames ring = Edges.withBlanks(3);
        Edges.triples(ring, -1, 1, -2, -2, 1, -3, -3, 1, -1);
        due("one group of 3, though 3 namings have THE FORM", ring.name(5), -1);
        due("one group of 3, though 3 namings have THE FORM", ring.name(6), 3);
        CanonNames chain = Edges.withBlanks(8);
        for (int b = 1; b < 8; b++) {
            Edges.triples(chain, -b, 1, -b - 1);
        }
        due("eight groups of 1", chain.name(0), -1);
        due("eight groups of 1", chain.name(1), 1);
        CanonNames pair = Edges.withBlanks(8);
        Edges.triples(pair, -3, 1, 1);
        due("groups of 1 and 7", pair.name(5039), -1);
        due("groups of 1 and 7", pair.name(5040), 5040);
    }

    private static void promise5Stays() {
        // Three blanks in a chain: one naming; a 4th and a 5th blank make it two.
        CanonNames x = Edges.withBlanks(3);
        Edges.triples(x, -1, 1, -2, -2, 1, -3, 5, 6, 7);
        due("nothing named, in vain", x.name(0), -1);
        Edges.namingIs("nothing named still", x);
        Edges.formIs("nothing named still", x);
        Edges.digestIs("nothing named still", x, Edges.NO_BYTES);
        due("as many steps as namings", x.name(1), 1);
        int[] numbers = {x.named(1), x.named(2), x.named(3)};
        int[] form = new int[9];
        for (int i = 0; i < 9; i++) {
            form[i] = x.form(i / 3, i % 3);
        }
        due("blank()", x.blank(), 4);
        due("blank()", x.blank(), 5);
        Edges.triples(x, 8, 8, 8);
        due("in vain", x.name(1), -1);
        Edges.namingIs("what was named stays", x, numbers);
        Edges.formIs("what was named stays", x, form);
        Edges.digestIs("what was named stays", x, Edges.digest(Edges.laid(form)));
        due("found", x.name(2), 2);
        due("the 5th blank has a number now", x.named(5) > 0 ? 1 : 0, 1);
        due("a 4th triple is there now", x.form(3, 0) != 0 ? 1 : 0, 1);
        Edges.leaves("in vain", Edges::busy, y -> y.name(0), -1);
        Edges.leaves("in vain", Edges::busy, y -> y.name(Long.MIN_VALUE), -1);
        Edges.leaves("in vain, nothing named", y -> Edges.blanks(y, 8), y -> y.name(40319), -1);
        Edges.leaves("in vain", Edges::brimful, y -> y.name(40319), -1);
    }

    private static void promise6Latest() {
        CanonNames x = Edges.withBlanks(8);
        due("name()", x.name(40320), 40320);
        Edges.namingIs("eight alike", x, 1, 2, 3, 4, 5, 6, 7, 8);
        due("keep()", x.keep(), 0);
        Edges.namingIs("behind a new graph", x, 1, 2, 3, 4, 5, 6, 7, 8);
        due("blank()", x.blank(), 1);
        due("in vain", x.name(0), -1);
        due("the 8th by the one before", x.named(8), 8);
        due("name()", x.name(1), 1);
        Edges.namingIs("the latest", x, 1);
        due("keep()", x.keep(), 1);
        due("name() of an empty graph", x.name(1), 1);
        Edges.namingIs("the latest", x);
    }

    private static void promise6NoneYet() {
        CanonNames x = new CanonNames();
        due("no blanks", x.named(1), BAD);
        Edges.blanks(x, 8);
        for (int b = 0; b <= 9; b++) {
            due("no name() yet, named(" + b + ")", x.named(b), BAD);
        }
        due("in vain", x.name(40319), -1);
        for (int b = 0; b <= 9; b++) {
            due("none found yet, named(" + b + ")", x.named(b), BAD);
        }
        due("found", x.name(40320), 40320);
        due("named(1)", x.named(1), 1);
        Edges.leaves("none yet", y -> Edges.blanks(y, 3), y -> y.named(1), BAD);
    }

    private static void promise6NoSuchBlank() {
        int[] sizes = {0, 1, 2, 7, 8};
        for (int n : sizes) {
            CanonNames x = Edges.withBlanks(n);
            due("name()", x.name(Long.MAX_VALUE) > 0 ? 1 : 0, 1);
            for (int b = 1; b <= n; b++) {
                due(n + " blanks, named(" + b + ")", x.named(b), b);
            }
            for (int b : Edges.with(Edges.FAR, 0, n + 1, 9, 10, -1, -n, -8, -9)) {
                due(n + " blanks, named(" + b + ")", x.named(b), b == 0 || b < 0 || b > n ? BAD : b);
            }
        }
        CanonNames x = Edges.withBlanks(2);
        due("name()", x.name(2), 2);
        due("a blank since then", x.blank(), 3);
        due("it had no such blank", x.named(3), BAD);
        due("it had this one", x.named(2), 2);
        Edges.leaves("blank 0", Edges::busy, y -> y.named(0), BAD);
        Edges.leaves("blank 5 of four", Edges::busy, y -> y.named(5), BAD);
        Edges.leaves("blank 9 of eight", Edges::brimful, y -> y.named(9), BAD);
        Edges.leaves("the least int", Edges::brimful, y -> y.named(Integer.MIN_VALUE), BAD);
        Edges.leaves("the greatest int", Edges::brimful, y -> y.named(Integer.MAX_VALUE), BAD);
        Edges.leaves("blank 4 of four", Edges::busy, y -> y.named(4) > 0 ? 1 : 0, 1);
    }

    private static void promise7Ends() {
        CanonNames x = new CanonNames();
        for (int i = 0; i < 40; i++) {
            Edges.triples(x, 1000 - i, 500 + i, 1 + i);
        }
        due("name()", x.name(1), 1);
        due("triple 0, point 0", x.form(0, 0), 961);
        due("triple 0, point 1", x.form(0, 1), 539);
        due("triple 0, point 2", x.form(0, 2), 40);
        due("triple 39, point 0", x.form(39, 0), 1000);
        due("triple 39, point 1", x.form(39, 1), 500);
        due("triple 39, point 2", x.form(39, 2), 1);
        CanonNames y = Edges.withBlanks(8);
        for (int b = 1; b <= 8; b++) {
            Edges.triples(y, -b, -b, -b);
        }
        due("name()", y.name(40320), 40320);
        due("the least blank's point", y.form(0, 0), -8);
        due("the greatest blank's point", y.form(7, 2), -1);
        due("behind the form", y.form(8, 0), 0);
        Edges.leaves("a point", Edges::brimful, z -> z.form(0, 0), -8);
        Edges.leaves("a point", Edges::brimful, z -> z.form(39, 2), 1);
    }

    private static void promise7NoneYet() {
        CanonNames x = new CanonNames();
        due("an empty graph", x.form(0, 0), 0);
        Edges.triples(x, 7, 8, 9);
        for (int k = 0; k < 3; k++) {
            due("no name() yet", x.form(0, k), 0);
        }
        due("in vain", x.name(0), -1);
        due("none found yet", x.form(0, 0), 0);
        due("found", x.name(1), 1);
        Edges.formIs("found", x, 7, 8, 9);
        due("keep()", x.keep(), 0);
        Edges.formIs("behind a new graph", x, 7, 8, 9);
        due("name() of an empty graph", x.name(1), 1);
        Edges.formIs("a form without triples", x);
        Edges.leaves("none yet", y -> Edges.fill(y, 3), y -> y.form(0, 0), 0);
    }

    private static void promise7NoSuchPoint() {
        CanonNames x = new CanonNames();
        Edges.fill(x, 39);
        due("name()", x.name(1), 1);
        Edges.triples(x, 40, 1, 1);
        for (int k = 0; k < 3; k++) {
            due("a triple since then", x.form(39, k), 0);
        }
        due("name()", x.name(1), 1);
        due("triple 39", x.form(39, 0), 40);
        due("triple 40", x.form(40, 0), 0);
        for (int far : Edges.with(Edges.FAR, -1, -2, -3, 40, 41, 119, 120)) {
            for (int k = 0; k < 3; k++) {
                due("form(" + far + ", " + k + ")", x.form(far, k), 0);
            }
        }
        // Point 3 of a triple is not point 0 of the next one, nor is point -1 one of the triple before.
        for (int far : Edges.with(Edges.FAR, -1, -3, 3, 6)) {
            due("form(0, " + far + ")", x.form(0, far), 0);
            due("form(1, " + far + ")", x.form(1, far), 0);
            due("form(39, " + far + ")", x.form(39, far), 0);
            due("form(" + far + ", " + far + ")", x.form(far, far), 0);
        }
        Edges.leaves("point 3", Edges::busy, y -> y.form(0, 3), 0);
        Edges.leaves("point -1", Edges::busy, y -> y.form(1, -1), 0);
        Edges.leaves("triple 3 of three", Edges::busy, y -> y.form(3, 0), 0);
        Edges.leaves("triple 40 of forty", Edges::brimful, y -> y.form(40, 0), 0);
        Edges.leaves("triple -1", Edges::brimful, y -> y.form(-1, 2), 0);
        Edges.leaves("the least ints", Edges::brimful, y -> y.form(Integer.MIN_VALUE, Integer.MIN_VALUE), 0);
        Edges.leaves("the greatest ints", Edges::brimful, y -> y.form(Integer.MAX_VALUE, Integer.MAX_VALUE), 0);
    }

    /** The octets 0x7f and 0x80 lie on both sides of the sign: among a thousand forms both are met. */
    private static void promise8Sign() {
        CanonNames x = new CanonNames();
        due("octet 0, 0xe3", x.octet(0), -29);
        due("octet 3, 0x42", x.octet(3), 66);
        due("octet 28, 0x78", x.octet(28), 120);
        due("octet 31, 0x55", x.octet(31), 85);
        int least = 0;
        int greatest = 0;
        for (int n = 1; n <= 1000; n++) {
            CanonNames y = new CanonNames();
            Edges.triples(y, n, 1, 1);
            due("name()", y.name(1), 1);
            int word = Edges.digest(Edges.laid(n, 1, 1))[7];
            due("octet 31 of the form " + n + " 1 1", y.octet(31), (byte) word);
            least = Math.min(least, y.octet(31));
            greatest = Math.max(greatest, y.octet(31));
        }
        due("the least of these", least, -128);
        due("the greatest of these", greatest, 127);
    }

    private static void promise8NoneYet() {
        CanonNames x = Edges.withBlanks(1);
        Edges.triples(x, -1, 1, 1000);
        Edges.digestIs("no name() yet", x, Edges.NO_BYTES);
        due("in vain", x.name(0), -1);
        Edges.digestIs("none found yet", x, Edges.NO_BYTES);
        due("found", x.name(1), 1);
        Edges.digestIs("found", x, Edges.digest(Edges.laid(-1, 1, 1000)));
        due("keep()", x.keep(), 0);
        due("name() of an empty graph", x.name(1), 1);
        Edges.digestIs("a form without triples", x, Edges.NO_BYTES);
        Edges.leaves("none yet", y -> Edges.fill(y, 3), y -> y.octet(31), 85);
    }

    private static void promise8Only() {
        CanonNames x = new CanonNames();
        CanonNames full = Edges.made(Edges::brimful);
        for (int i : Edges.with(Edges.FAR, -1, 32, 33, 63, 64, 255, 256, -32, -31)) {
            due("nothing named, octet(" + i + ")", Edges.octet(x, i), Edges.THROWS);
            due("forty triples, octet(" + i + ")", Edges.octet(full, i), Edges.THROWS);
        }
        due("nothing named, octet(0)", Edges.octet(x, 0), -29);
        due("nothing named, octet(31)", Edges.octet(x, 31), 85);
        due("keep() behind what was thrown", x.keep(), 0);
        int[] form = new int[120];
        for (int i = 0; i < form.length; i++) {
            form[i] = full.form(i / 3, i % 3);
        }
        Edges.digestIs("forty triples", full, Edges.digest(Edges.laid(form)));
        Edges.leaves("octet(32)", Edges::busy, y -> Edges.octet(y, 32), Edges.THROWS);
        Edges.leaves("octet(-1)", Edges::busy, y -> Edges.octet(y, -1), Edges.THROWS);
        Edges.leaves("octet(32), nothing named", y -> { }, y -> Edges.octet(y, 32), Edges.THROWS);
        Edges.leaves("the least int", Edges::brimful, y -> Edges.octet(y, Integer.MIN_VALUE), Edges.THROWS);
        Edges.leaves("the greatest int", Edges::brimful, y -> Edges.octet(y, Integer.MAX_VALUE), Edges.THROWS);
    }
}
