import java.util.function.ToLongFunction;

/** The boundary cases of what stands before the promises: the limits, digests, groups and rows. */
public final class TermsEdgesTest {
    private static final int BAD = Edges.BAD;
    private static final int FULL = Edges.FULL;
    private static final byte[] SELF = {1};

    private record Call(String name, ToLongFunction<CanonNames> call, long answer) {
    }

    public static void main(String[] args) {
        Edges.test("What it is", "An object is used for at most 512 calls", TermsEdgesTest::theLastCall);
        Edges.test("The public face", "int BAD = -1;", TermsEdgesTest::bad);
        Edges.test("The public face", "int FULL = -2;", TermsEdgesTest::full);
        Edges.test("Terms", "NAMES, numbers 1 .. 1000", TermsEdgesTest::names);
        Edges.test("Terms", "BLANKS, of which a graph has up to 8, numbered from 1", TermsEdgesTest::upToEightBlanks);
        Edges.test("Terms", "as points told as -1, -2, ..", TermsEdgesTest::blanksAsPoints);
        Edges.test("Terms", "blank(), named(), hash(), first() tell and take the numbers 1, 2, ..", TermsEdgesTest::blanksAsNumbers);
        Edges.test("Terms", "three points each, blanks it has", TermsEdgesTest::blanksItHas);
        Edges.test("Terms", "none twice", TermsEdgesTest::noneTwice);
        Edges.test("Terms", "at most 40.", TermsEdgesTest::atMostForty);
        Edges.test("Terms", "DIGESTS are those of SHA-256 (FIPS 180-4)", TermsEdgesTest::digestsOfForms);
        Edges.test("Terms", "DIGESTS are those of SHA-256 (FIPS 180-4)", TermsEdgesTest::digestsOfDescriptions);
        Edges.test("Terms", "their OCTETS are 0 .. 31, the first word's highest one first.", TermsEdgesTest::octets);
        Edges.test("Terms", "A number laid as four bytes has its highest one first.", TermsEdgesTest::fourBytes);
        Edges.test("Terms", "The first HASH of each blank is the digest of no bytes.", TermsEdgesTest::firstHash);
        Edges.test("Terms", "these sorted as rows of bytes (without sign", TermsEdgesTest::sortedByNames);
        Edges.test("Terms", "these sorted as rows of bytes (without sign", TermsEdgesTest::sortedByHashes);
        Edges.test("Terms", "the last one, which does not, counts as made, and its hashes are not taken", TermsEdgesTest::lastRound);
        Edges.test("Terms", "with less than two blanks there is one round, whose hashes are taken.", TermsEdgesTest::lessThanTwoBlanks);
        Edges.test("Terms", "in the order of these (by words, without sign)", TermsEdgesTest::orderOfGroups);
        Edges.test("Terms", "each group has those behind the groups before it.", TermsEdgesTest::numbersOfGroups);
        Edges.test("Terms", "sorted by first, second, third point (a lesser number first).", TermsEdgesTest::sortedRow);
        Edges.test("Terms", "rows are compared by their first triples that differ", TermsEdgesTest::leastRow);
        Edges.test("Terms", "which gives blank 1 the least number, then blank 2, ..", TermsEdgesTest::leastNumbers);
        Check.end("TermsEdgesTest");
    }

    private static void due(String what, long got, long want) {
        Edges.due(what, got, want);
    }

    private static void ring(CanonNames x, int blanks) {
        Edges.blanks(x, blanks);
        for (int b = 1; b <= blanks; b++) {
            Edges.triples(x, -b, 1, -(b % blanks + 1));
        }
    }

    /** THE FORM of a ring: its greatest number goes to the next one, .., and 1 to the greatest. */
    private static int[] formOfRing(int blanks) {
        int[] form = new int[3 * blanks];
        for (int i = 0; i < blanks; i++) {
            int number = blanks - i;
            form[3 * i] = -number;
            form[3 * i + 1] = 1;
            form[3 * i + 2] = number == 1 ? -blanks : 1 - number;
        }
        return form;
    }

    /** Calls on a ring of eight behind a kept one like it, that leave the graph as it is. */
    private static Call[] callsOnRing() {
        int octet = (byte) (Edges.digest(Edges.laid(formOfRing(8)))[0] >>> 24);
        return new Call[] {
            new Call("name(40320)", x -> x.name(40320), 8),
            new Call("named(2)", x -> x.named(2), 8),
            new Call("form(0, 0)", x -> x.form(0, 0), -8),
            new Call("octet(0)", x -> x.octet(0), octet),
            new Call("octet(32)", x -> Edges.octet(x, 32), Edges.THROWS),
            new Call("hash(8, 7)", x -> x.hash(8, 7), Edges.NO_BYTES[7]),
            new Call("rounds()", CanonNames::rounds, 1),
            new Call("first(0, 7)", x -> x.first(0, 7), 8),
            new Call("isomorphic(0)", x -> x.isomorphic(0), 1),
            new Call("ways(0)", x -> x.ways(0), 8),
            new Call("equal(0)", x -> x.equal(0), 1),
            new Call("triples()", CanonNames::triples, 8),
            new Call("blanks()", CanonNames::blanks, 8),
            new Call("name(40319)", x -> x.name(40319), -1),
            new Call("blank()", CanonNames::blank, FULL),
            new Call("triple(-8, 1, -1)", x -> x.triple(-8, 1, -1), 0),
            new Call("drop(-1, 1, -8)", x -> x.drop(-1, 1, -8), 0),
        };
    }

    /** The object's 512th call, whichever it is, is answered; what a 513th answers is free. */
    private static void theLastCall() {
        Call[] calls = callsOnRing();
        for (int last = 0; last <= calls.length + 2; last++) {
            CanonNames x = new CanonNames();
            ring(x, 8);
            due("keep()", x.keep(), 0);
            ring(x, 8);
            for (int call = 34; call < 512; call++) {
                Call next = calls[(call - 34) % calls.length];
                due("call " + call + ", " + next.name, next.call.applyAsLong(x), next.answer);
            }
            Call[] changes = {
                new Call("keep()", CanonNames::keep, 1),
                new Call("triple(-1, -1, -1)", y -> y.triple(-1, -1, -1), 1),
                new Call("drop(-1, 1, -2)", y -> y.drop(-1, 1, -2), 1),
            };
            Call next = last < calls.length ? calls[last] : changes[last - calls.length];
            due("call 512, " + next.name, next.call.applyAsLong(x), next.answer);
        }
    }

    private static void bad() {
        due("BAD", CanonNames.BAD, -1);
        CanonNames x = new CanonNames();
        due("triple()", x.triple(0, 1, 1), CanonNames.BAD);
        due("named()", x.named(1), CanonNames.BAD);
        due("first()", x.first(0, 0), CanonNames.BAD);
        due("isomorphic()", x.isomorphic(0), CanonNames.BAD);
        due("ways()", x.ways(0), CanonNames.BAD);
        due("equal()", x.equal(0), CanonNames.BAD);
    }

    private static void full() {
        due("FULL", CanonNames.FULL, -2);
        CanonNames x = Edges.made(Edges::brimful);
        due("blank()", x.blank(), CanonNames.FULL);
        due("triple()", x.triple(1000, 1, 1), CanonNames.FULL);
        due("keep()", x.keep(), CanonNames.FULL);
    }

    private static void names() {
        CanonNames x = new CanonNames();
        int[] names = {1, 2, 127, 128, 255, 256, 999, 1000};
        for (int name : names) {
            Edges.triples(x, name, 500, 501, 500, name, 501, 500, 501, name);
        }
        int[] none = {0, 1001, -1, 1002, 2000, -1000, Integer.MAX_VALUE, Integer.MIN_VALUE};
        for (int name : none) {
            due("first " + name, x.triple(name, 500, 501), BAD);
            due("second " + name, x.triple(500, name, 501), BAD);
            due("third " + name, x.triple(500, 501, name), BAD);
        }
        due("triples()", x.triples(), 24);
        due("name()", x.name(1), 1);
        due("the least name", x.form(0, 0), 1);
        due("the greatest name", x.form(23, 0), 1000);
    }

    private static void upToEightBlanks() {
        CanonNames x = new CanonNames();
        for (int graph = 0; graph < 8; graph++) {
            for (int n = 1; n <= 8; n++) {
                due("graph " + graph + ", blank " + n, x.blank(), n);
            }
            due("graph " + graph + ", a 9th", x.blank(), FULL);
            due("graph " + graph + ", blanks()", x.blanks(), 8);
            due("keep()", x.keep(), graph);
        }
    }

    private static void blanksAsPoints() {
        CanonNames x = new CanonNames();
        for (int n = 1; n <= 9; n++) {
            due("first -" + n + " before it is there", x.triple(-n, 1, 1), BAD);
            due("second -" + n + " before it is there", x.triple(1, -n, 1), BAD);
            due("third -" + n + " before it is there", x.triple(1, 1, -n), BAD);
            due("blank " + n, x.blank(), n <= 8 ? n : FULL);
            int answer = n <= 8 ? 1 : BAD;
            due("first -" + n, x.triple(-n, 1, 1), answer);
            due("second -" + n, x.triple(1, -n, 1), answer);
            due("third -" + n, x.triple(1, 1, -n), answer);
        }
        due("triples()", x.triples(), 24);
        due("0 is no blank", x.triple(0, 1, 1), BAD);
    }

    private static void blanksAsNumbers() {
        CanonNames x = new CanonNames();
        due("blank()", x.blank(), 1);
        due("blank()", x.blank(), 2);
        due("name()", x.name(2), 2);
        due("named(1)", x.named(1), 1);
        due("named(2)", x.named(2), 2);
        due("hash(1, 0)", x.hash(1, 0), Edges.NO_BYTES[0]);
        due("hash(2, 0)", x.hash(2, 0), Edges.NO_BYTES[0]);
        due("first(0, 0)", x.first(0, 0), 1);
        due("first(0, 1)", x.first(0, 1), 2);
        int[] none = {0, -1, -2, 3};
        for (int b : none) {
            due("named(" + b + ")", x.named(b), BAD);
            due("hash(" + b + ", 0)", x.hash(b, 0), 0);
        }
    }

    private static void blanksItHas() {
        CanonNames x = Edges.withBlanks(8);
        Edges.triples(x, -8, -8, -8);
        due("keep()", x.keep(), 0);
        due("a kept graph's blank", x.triple(-8, -8, -8), BAD);
        due("a kept graph's first blank", x.triple(-1, 1, 1), BAD);
        due("blank()", x.blank(), 1);
        due("its own blank", x.triple(-1, -1, -1), 1);
        due("a second one that it has not", x.triple(-1, -1, -2), BAD);
        due("triples()", x.triples(), 1);
        CanonNames y = Edges.withBlanks(3);
        due("name()", y.name(6), 6);
        due("keep()", y.keep(), 0);
        Edges.blanks(y, 2);
        due("the 3rd blank of what was named", y.triple(1, 1, -3), BAD);
    }

    private static void noneTwice() {
        CanonNames x = Edges.withBlanks(2);
        for (int time = 0; time < 3; time++) {
            due("of names", x.triple(1000, 1, 1000), time == 0 ? 1 : 0);
            due("of blanks", x.triple(-2, -1, -2), time == 0 ? 1 : 0);
            due("triples()", x.triples(), 2);
        }
        due("name()", x.name(1), 1);
        due("the form has two", x.form(1, 0) != 0 ? 1 : 0, 1);
        due("the form has no third", x.form(2, 0), 0);
        due("one goes", x.drop(1000, 1, 1000), 1);
        due("it was there once", x.drop(1000, 1, 1000), 0);
    }

    private static void atMostForty() {
        CanonNames x = new CanonNames();
        for (int n = 1; n <= 40; n++) {
            due("triple " + n, x.triple(1000, 1000, n), 1);
        }
        due("triple 41", x.triple(1000, 1000, 41), FULL);
        due("triple 41, before all others", x.triple(1, 1, 1), FULL);
        due("triples()", x.triples(), 40);
        due("name()", x.name(1), 1);
        due("the last point", x.form(39, 2), 40);
        due("behind it", x.form(40, 2), 0);
    }

    /** Messages of 0, 12, .., 480 bytes: those that fill a block, and those whose end needs another one. */
    private static void digestsOfForms() {
        for (int count = 0; count <= 40; count++) {
            CanonNames x = new CanonNames();
            int[] form = new int[3 * count];
            for (int i = 0; i < count; i++) {
                form[3 * i] = 1 + i;
                form[3 * i + 1] = 1000 - i;
                form[3 * i + 2] = 256;
            }
            Edges.triples(x, form);
            due("name()", x.name(1), 1);
            Edges.digestIs(count + " triples", x, Edges.digest(Edges.laid(form)));
        }
    }

    /** Descriptions of 3, 7 and 11 bytes: with the 32 before them there are 56, 63, 64, 119, 120 .. bytes. */
    private static void digestsOfDescriptions() {
        for (int sevens = 0; sevens <= 12; sevens++) {
            for (int elevens = 0; elevens <= 12; elevens++) {
                describedBy(sevens, elevens, false);
                describedBy(sevens, elevens, true);
            }
        }
    }

    private static void describedBy(int sevens, int elevens, boolean three) {
        CanonNames x = Edges.withBlanks(1);
        byte[][] parts = new byte[1 + sevens + elevens + 1][];
        parts[0] = Edges.laid(Edges.NO_BYTES);
        for (int i = 0; i < elevens; i++) {
            Edges.triples(x, -1, i + 1, 7);
            parts[1 + i] = joined(SELF, name(i + 1), name(7));
        }
        for (int i = 0; i < sevens; i++) {
            Edges.triples(x, -1, -1, i + 1);
            parts[1 + elevens + i] = joined(SELF, SELF, name(i + 1));
        }
        parts[1 + elevens + sevens] = three ? joined(SELF, SELF, SELF) : new byte[0];
        if (three) {
            Edges.triples(x, -1, -1, -1);
        }
        Edges.hashIs(joined(parts).length + " bytes", x, 1, Edges.digest(parts));
    }

    private static byte[] name(int number) {
        return joined(new byte[] {0}, Edges.laid(number));
    }

    private static byte[] other(int[] hash) {
        return joined(new byte[] {2}, Edges.laid(hash));
    }

    private static byte[] joined(byte[]... parts) {
        java.io.ByteArrayOutputStream all = new java.io.ByteArrayOutputStream();
        for (byte[] part : parts) {
            all.writeBytes(part);
        }
        return all.toByteArray();
    }

    private static void octets() {
        CanonNames x = new CanonNames();
        int[] first = {0xe3, 0xb0, 0xc4, 0x42};
        int[] last = {0x78, 0x52, 0xb8, 0x55};
        for (int i = 0; i < 4; i++) {
            due("octet(" + i + ")", x.octet(i), (byte) first[i]);
            due("octet(" + (28 + i) + ")", x.octet(28 + i), (byte) last[i]);
        }
        due("octet(-1)", Edges.octet(x, -1), Edges.THROWS);
        due("octet(32)", Edges.octet(x, 32), Edges.THROWS);
    }

    private static void fourBytes() {
        int[] names = {1, 127, 128, 255, 256, 257, 999, 1000};
        for (int n : names) {
            CanonNames x = new CanonNames();
            Edges.triples(x, n, n, n);
            due("name()", x.name(1), 1);
            byte[] bytes = {0, 0, (byte) (n / 256), (byte) n, 0, 0, (byte) (n / 256), (byte) n, 0, 0, (byte) (n / 256), (byte) n};
            Edges.digestIs("the name " + n, x, Edges.digest(bytes));
        }
        CanonNames x = Edges.withBlanks(1);
        Edges.triples(x, -1, -1, -1);
        due("name()", x.name(1), 1);
        Edges.digestIs("the point -1", x, Edges.digest(new byte[] {-1, -1, -1, -1, -1, -1, -1, -1, -1, -1, -1, -1}));
        CanonNames ring = Edges.made(y -> ring(y, 8));
        due("name()", ring.name(40320), 8);
        Edges.digestIs("the points -8 to -1", ring, Edges.digest(Edges.laid(formOfRing(8))));
    }

    private static void firstHash() {
        for (int n = 2; n <= 8; n++) {
            CanonNames x = Edges.made(y -> ring(y, 2));
            for (int b = 3; b <= n; b++) {
                due("blank()", x.blank(), b);
            }
            due("the ring goes", x.drop(-1, 1, -2) + x.drop(-2, 1, -1), 2);
            for (int b = 1; b <= n; b++) {
                Edges.hashIs(n + " blanks, none of whose rounds is taken", x, b, Edges.NO_BYTES);
            }
        }
    }

    /** Names whose last bytes lie on both sides of 127, told with the greatest one first. */
    private static void sortedByNames() {
        int[] names = {1, 127, 128, 255, 256, 257, 999, 1000};
        CanonNames x = Edges.withBlanks(1);
        byte[][] parts = new byte[1 + 2 * names.length][];
        parts[0] = Edges.laid(Edges.NO_BYTES);
        for (int i = names.length - 1; i >= 0; i--) {
            Edges.triples(x, -1, names[i], 5, names[i], 5, -1);
            parts[1 + i] = joined(name(names[i]), name(5), SELF);
            parts[1 + names.length + i] = joined(SELF, name(names[i]), name(5));
        }
        Edges.hashIs("one blank", x, 1, Edges.digest(parts));
    }

    /** Blank 3 of the graph below after a round, or blank 4, which stands in one triple less. */
    private static int[] markedAfterRound(int mark, int triples) {
        byte[] fromOther = joined(other(Edges.NO_BYTES), name(1), SELF);
        byte[] second = triples == 2 ? fromOther : new byte[0];
        return Edges.digest(Edges.laid(Edges.NO_BYTES), SELF, name(mark), name(mark), fromOther, second);
    }

    private static int markWith(boolean highest, int triples) {
        int mark = 2;
        while (markedAfterRound(mark, triples)[0] < 0 != highest) {
            mark++;
        }
        return mark;
    }

    /**
     * Blanks 1 and 2 differ from round 2 on: the first goes to 3 and 4, the second to 3 and 5. The
     * marks of 3 and 4 are chosen so that one's hash begins with a byte below 128 and one's does not.
     */
    private static void sortedByHashes() {
        for (int turn = 0; turn < 2; turn++) {
            int mark3 = markWith(turn == 0, 2);
            int mark4 = markWith(turn != 0, 1);
            CanonNames x = Edges.withBlanks(5);
            Edges.triples(x, -3, mark3, mark3, -4, mark4, mark4, -1, 1, -3, -1, 1, -4, -2, 1, -3, -2, 1, -5);
            byte[] to = joined(SELF, name(1), other(Edges.NO_BYTES));
            int[] before = Edges.digest(Edges.laid(Edges.NO_BYTES), to, to);
            byte[] to3 = joined(SELF, name(1), other(markedAfterRound(mark3, 2)));
            byte[] to4 = joined(SELF, name(1), other(markedAfterRound(mark4, 1)));
            byte[] lesser = turn == 0 ? to4 : to3;
            byte[] greater = turn == 0 ? to3 : to4;
            Edges.hashIs("turn " + turn, x, 1, Edges.digest(Edges.laid(before), lesser, greater));
            due("rounds()", x.rounds(), 3);
        }
    }

    private static void lastRound() {
        CanonNames x = Edges.withBlanks(2);
        due("no round makes more", x.rounds(), 1);
        Edges.hashIs("no round makes more", x, 1, Edges.NO_BYTES);
        Edges.triples(x, -1, 7, 7);
        due("one makes more", x.rounds(), 2);
        Edges.hashIs("one makes more", x, 1, Edges.digest(Edges.laid(Edges.NO_BYTES), SELF, name(7), name(7)));
        Edges.hashIs("one makes more", x, 2, Edges.digest(Edges.laid(Edges.NO_BYTES)));
        CanonNames ring = Edges.made(y -> ring(y, 8));
        due("a ring, where none makes more", ring.rounds(), 1);
        Edges.hashIs("a ring", ring, 8, Edges.NO_BYTES);
        Edges.triples(ring, -1, 7, 7);
        due("a mark tells two blanks more by each round", ring.rounds(), 5);
    }

    private static void lessThanTwoBlanks() {
        int[] lone = Edges.digest(Edges.laid(Edges.NO_BYTES));
        CanonNames x = new CanonNames();
        due("no blanks, rounds()", x.rounds(), 1);
        due("no blanks, hash(1, 0)", x.hash(1, 0), 0);
        Edges.triples(x, 1, 1, 1);
        due("no blanks, a triple, rounds()", x.rounds(), 1);
        due("blank()", x.blank(), 1);
        due("one blank, rounds()", x.rounds(), 1);
        Edges.hashIs("one blank", x, 1, lone);
        Edges.triples(x, 7, -1, 7);
        due("one blank in a triple, rounds()", x.rounds(), 1);
        Edges.hashIs("one blank in a triple", x, 1, Edges.digest(Edges.laid(Edges.NO_BYTES), name(7), SELF, name(7)));
        due("it goes", x.drop(7, -1, 7), 1);
        Edges.hashIs("one blank again", x, 1, lone);
        due("blank()", x.blank(), 2);
        due("two blanks, rounds()", x.rounds(), 1);
        Edges.hashIs("two blanks", x, 1, Edges.NO_BYTES);
        Edges.hashIs("two blanks", x, 2, Edges.NO_BYTES);
        due("keep()", x.keep(), 0);
        due("no blanks again, rounds()", x.rounds(), 1);
        due("no blanks again, hash(1, 0)", x.hash(1, 0), 0);
    }

    private static int[] hashOfMarked(int mark) {
        return Edges.digest(Edges.laid(Edges.NO_BYTES), SELF, name(mark), name(mark));
    }

    /** Two marked blanks, for all marks in turn: first words with and without the highest bit. */
    private static void orderOfGroups() {
        int[] signs = new int[4];
        for (int mark = 1; mark < 1000; mark++) {
            int one = hashOfMarked(mark)[0];
            int two = hashOfMarked(mark + 1)[0];
            signs[2 * (one >>> 31) + (two >>> 31)]++;
            CanonNames x = Edges.withBlanks(2);
            Edges.triples(x, -1, mark, mark, -2, mark + 1, mark + 1);
            int first = Integer.compareUnsigned(one, two) < 0 ? 1 : 2;
            due("marks from " + mark + ", first(0, 0)", x.first(0, 0), first);
            due("marks from " + mark + ", first(1, 0)", x.first(1, 0), 3 - first);
        }
        for (int i = 0; i < 4; i++) {
            due("words of signs " + i + " were met", signs[i] > 0 ? 1 : 0, 1);
        }
    }

    private static void numbersOfGroups() {
        for (int mark = 1; mark <= 20; mark++) {
            CanonNames x = Edges.withBlanks(2);
            Edges.triples(x, -1, mark, mark);
            int number = Integer.compareUnsigned(hashOfMarked(mark)[0], Edges.digest(Edges.laid(Edges.NO_BYTES))[0]) < 0 ? 1 : 2;
            due("name()", x.name(1), 1);
            Edges.namingIs("mark " + mark, x, number, 3 - number);
            // The row with -2 would be less, yet a blank of the first group has the number 1.
            Edges.formIs("mark " + mark, x, -number, mark, mark);
        }
        CanonNames x = Edges.withBlanks(8);
        for (int b = 1; b <= 8; b++) {
            Edges.triples(x, -b, 10 + (b + 1) / 2, 1);
        }
        due("four groups of two", x.name(16), 16);
        for (int group = 0; group < 4; group++) {
            due("group " + group + "'s first blank", x.named(x.first(group, 0)), 2 * group + 1);
            due("group " + group + "'s last blank", x.named(x.first(group, 1)), 2 * group + 2);
        }
    }

    private static void sortedRow() {
        CanonNames x = Edges.withBlanks(1);
        Edges.triples(x, 1000, 1, 1, 2, 1, 1, 1, 2, 1, 1, 1, 1000, 1, 1, 999, 1, 1, -1, 1, -1, 1000, -1, 1000, 1000);
        due("name()", x.name(1), 1);
        Edges.formIs("a blank and names", x, -1, 1000, 1000, 1, -1, 1000, 1, 1, -1, 1, 1, 999, 1, 1, 1000, 1, 2, 1, 2, 1, 1, 1000, 1, 1);
        CanonNames y = Edges.withBlanks(8);
        for (int b = 1; b <= 8; b++) {
            Edges.triples(y, 5, 5, -b);
        }
        due("name()", y.name(40320), 40320);
        Edges.formIs("eight blanks", y, 5, 5, -8, 5, 5, -7, 5, 5, -6, 5, 5, -5, 5, 5, -4, 5, 5, -3, 5, 5, -2, 5, 5, -1);
    }

    private static void leastRow() {
        CanonNames x = Edges.withBlanks(8);
        due("no triples: no rows differ", x.name(40320), 40320);
        Edges.formIs("no triples", x);
        for (int blanks = 2; blanks <= 8; blanks++) {
            int n = blanks;
            CanonNames ring = Edges.made(y -> ring(y, n));
            due("a ring of " + n, ring.name(40320), n);
            Edges.formIs("a ring of " + n, ring, formOfRing(n));
        }
        // Two rings of three begin as a ring of six does, and differ from it by the third triple.
        CanonNames rings = Edges.withBlanks(6);
        Edges.triples(rings, -1, 1, -2, -2, 1, -3, -3, 1, -1, -4, 1, -5, -5, 1, -6, -6, 1, -4);
        due("two rings of three", rings.name(720), 18);
        Edges.formIs("two rings of three", rings, -6, 1, -5, -5, 1, -4, -4, 1, -6, -3, 1, -2, -2, 1, -1, -1, 1, -3);
    }

    private static void leastNumbers() {
        CanonNames x = Edges.withBlanks(8);
        due("name()", x.name(40320), 40320);
        Edges.namingIs("all namings have the row", x, 1, 2, 3, 4, 5, 6, 7, 8);
        CanonNames ring = Edges.made(y -> ring(y, 8));
        due("name()", ring.name(40320), 8);
        Edges.namingIs("blank 1's number tells all others", ring, 1, 8, 7, 6, 5, 4, 3, 2);
        CanonNames rings = Edges.withBlanks(6);
        Edges.triples(rings, -1, 1, -3, -3, 1, -5, -5, 1, -1, -2, 1, -4, -4, 1, -6, -6, 1, -2);
        due("name()", rings.name(720), 18);
        Edges.namingIs("blank 2's number is free too", rings, 1, 4, 3, 6, 2, 5);
    }
}
