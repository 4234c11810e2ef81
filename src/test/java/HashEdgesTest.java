/** The boundary cases of promises 9 to 11: hashes, rounds and groups of the graph as it is. */
public final class HashEdgesTest {
    private static final int BAD = Edges.BAD;
    private static final int FULL = Edges.FULL;

    public static void main(String[] args) {
        Edges.test("Promise 9", "Word i (0 .. 7) of a blank's HASH", HashEdgesTest::promise9Ends);
        Edges.test("Promise 9", "in the graph as it is", HashEdgesTest::promise9AsItIs);
        Edges.test("Promise 9", "0 when there is none such.", HashEdgesTest::promise9NoSuchWord);
        Edges.test("Promise 9", "0 when there is none such.", HashEdgesTest::promise9NoSuchBlank);
        Edges.test("Promise 10", "How many rounds were made for that.", HashEdgesTest::promise10Fewest);
        Edges.test("Promise 10", "How many rounds were made for that.", HashEdgesTest::promise10Most);
        Edges.test("Promise 11", "Blank i (from 0, by their numbers) of a group (from 0)", HashEdgesTest::promise11Ends);
        Edges.test("Promise 11", "of the graph as it is", HashEdgesTest::promise11AsItIs);
        Edges.test("Promise 11", "BAD when there is none such.", HashEdgesTest::promise11NoSuchGroup);
        Edges.test("Promise 11", "BAD when there is none such.", HashEdgesTest::promise11NoSuchBlank);
        Check.end("HashEdgesTest");
    }

    private static void due(String what, long got, long want) {
        Edges.due(what, got, want);
    }

    /** The digest of a blank's first hash and descriptions: these are its words after one round. */
    private static int[] afterOneRound(byte... descriptions) {
        return Edges.digest(Edges.laid(Edges.NO_BYTES), descriptions);
    }

    /** Eight blanks, each in a triple with its own name: (-1, 11, 11), (-2, 12, 12), .. */
    private static void marked(CanonNames x) {
        Edges.blanks(x, 8);
        for (int b = 1; b <= 8; b++) {
            Edges.triples(x, -b, 10 + b, 10 + b);
        }
    }

    private static int[] hashOfMarked(int blank) {
        byte mark = (byte) (10 + blank);
        return afterOneRound((byte) 1, (byte) 0, (byte) 0, (byte) 0, (byte) 0, mark, (byte) 0, (byte) 0, (byte) 0, (byte) 0, mark);
    }

    private static void promise9Ends() {
        CanonNames x = Edges.made(HashEdgesTest::marked);
        for (int b = 1; b <= 8; b++) {
            Edges.hashIs("blank " + b + " of eight", x, b, hashOfMarked(b));
        }
        CanonNames lone = Edges.withBlanks(1);
        Edges.hashIs("a lone blank", lone, 1, afterOneRound());
        Edges.leaves("word 0 of blank 1", HashEdgesTest::marked, y -> y.hash(1, 0), hashOfMarked(1)[0]);
        Edges.leaves("word 7 of blank 8", HashEdgesTest::marked, y -> y.hash(8, 7), hashOfMarked(8)[7]);
    }

    private static void promise9AsItIs() {
        CanonNames x = Edges.withBlanks(1);
        Edges.hashIs("one blank", x, 1, afterOneRound());
        due("blank()", x.blank(), 2);
        Edges.hashIs("a blank more", x, 1, Edges.NO_BYTES);
        Edges.triples(x, -2, -2, -2);
        Edges.hashIs("a triple more", x, 1, afterOneRound());
        Edges.hashIs("a triple more", x, 2, afterOneRound((byte) 1, (byte) 1, (byte) 1));
        due("the triple again", x.triple(-2, -2, -2), 0);
        due("no point", x.triple(-3, 1, 1), BAD);
        due("not there", x.drop(-1, -1, -1), 0);
        due("name()", x.name(1), 1);
        Edges.hashIs("nothing has changed", x, 2, afterOneRound((byte) 1, (byte) 1, (byte) 1));
        due("it goes", x.drop(-2, -2, -2), 1);
        Edges.hashIs("a triple less", x, 2, Edges.NO_BYTES);
        due("keep()", x.keep(), 0);
        due("a new graph", x.hash(1, 0), 0);
        due("blank()", x.blank(), 1);
        Edges.hashIs("a new graph's blank", x, 1, afterOneRound());
        CanonNames full = Edges.made(Edges::brimful);
        int before = full.hash(8, 7);
        due("blank()", full.blank(), FULL);
        due("triple()", full.triple(-8, -8, -8), FULL);
        due("keep()", full.keep(), FULL);
        due("nothing has changed", full.hash(8, 7), before);
    }

    /** Word 8 of a blank is not word 0 of the next one, nor is word -1 one of the blank before. */
    private static void promise9NoSuchWord() {
        CanonNames x = Edges.made(HashEdgesTest::marked);
        for (int i : Edges.with(Edges.FAR, -1, -8, 8, 9, 15, 16, 63, 64)) {
            due("hash(1, " + i + ")", x.hash(1, i), 0);
            due("hash(2, " + i + ")", x.hash(2, i), 0);
            due("hash(8, " + i + ")", x.hash(8, i), 0);
        }
        Edges.leaves("word 8", Edges::busy, y -> y.hash(1, 8), 0);
        Edges.leaves("word -1", Edges::busy, y -> y.hash(2, -1), 0);
        Edges.leaves("the greatest int", Edges::brimful, y -> y.hash(8, Integer.MAX_VALUE), 0);
        Edges.leaves("the least int", Edges::brimful, y -> y.hash(8, Integer.MIN_VALUE), 0);
    }

    private static void promise9NoSuchBlank() {
        int[] sizes = {0, 1, 2, 7, 8};
        for (int n : sizes) {
            CanonNames x = Edges.withBlanks(n);
            for (int b : Edges.with(Edges.FAR, 0, n + 1, 9, -1, -n, -8, -9)) {
                boolean none = b < 1 || b > n;
                due(n + " blanks, is hash(" + b + ", 0) 0", x.hash(b, 0) == 0 ? 1 : 0, none ? 1 : 0);
                due(n + " blanks, is hash(" + b + ", 7) 0", x.hash(b, 7) == 0 ? 1 : 0, none ? 1 : 0);
                due(n + " blanks, hash(" + b + ", 8)", x.hash(b, 8), 0);
            }
        }
        // The blanks of a graph that was named or kept are not those of the graph as it is.
        CanonNames x = Edges.made(HashEdgesTest::marked);
        due("name()", x.name(1), 1);
        due("keep()", x.keep(), 0);
        Edges.blanks(x, 2);
        due("blank 2 of two", x.hash(2, 0), Edges.NO_BYTES[0]);
        due("blank 3 of two", x.hash(3, 0), 0);
        Edges.leaves("blank 0", Edges::busy, y -> y.hash(0, 0), 0);
        Edges.leaves("blank 4 of three", Edges::busy, y -> y.hash(4, 0), 0);
        Edges.leaves("blank 9 of eight", Edges::brimful, y -> y.hash(9, 0), 0);
        Edges.leaves("the least int", Edges::brimful, y -> y.hash(Integer.MIN_VALUE, 0), 0);
        Edges.leaves("the greatest int", Edges::brimful, y -> y.hash(Integer.MAX_VALUE, 0), 0);
    }

    private static void promise10Fewest() {
        CanonNames x = new CanonNames();
        due("no blanks", x.rounds(), 1);
        for (int n = 1; n <= 8; n++) {
            due("blank()", x.blank(), n);
            due(n + " blanks, all alike", x.rounds(), 1);
        }
        Edges.triples(x, -8, 1, 1);
        due("two groups at once, and no more", x.rounds(), 2);
        due("it goes", x.drop(-8, 1, 1), 1);
        due("all alike again", x.rounds(), 1);
        CanonNames marked = Edges.made(HashEdgesTest::marked);
        due("eight groups at once, and no more", marked.rounds(), 2);
        due("keep()", marked.keep(), 0);
        due("a new graph", marked.rounds(), 1);
        Edges.leaves("rounds() of no blanks", y -> { }, CanonNames::rounds, 1);
        Edges.leaves("rounds() of a full graph", Edges::brimful, CanonNames::rounds, 1);
    }

    /**
     * Graphs, found by a search, whose eight blanks come apart one by one: seven rounds make one
     * different hash more each, the eighth makes none. There can not be more rounds for eight blanks.
     */
    private static void promise10Most() {
        CanonNames x = Edges.withBlanks(8);
        Edges.triples(x, -1, 1, -1, -1, 1, -3, -1, 1, -8, -2, 1, -4, -2, 1, -7, -3, 1, -3, -3, 1, -5, -3, 1, -7);
        Edges.triples(x, -4, 1, -6, -4, 1, -8, -5, 1, -1, -5, 1, -5, -5, 1, -6, -6, 1, -2, -6, 1, -5);
        Edges.triples(x, -7, 1, -3, -7, 1, -4, -8, 1, -1, -8, 1, -2);
        due("rounds()", x.rounds(), 8);
        due("its hashes all differ", x.first(7, 0) > 0 ? 1 : 0, 1);
        due("its one naming", x.name(1), 1);
        CanonNames y = Edges.withBlanks(8);
        Edges.triples(y, -5, 1, -3, -8, 1, -1, -7, 1, -5, -4, 1, -7, -2, 1, -5, -2, 1, -8, -3, 1, -7, -4, 1, -3, -6, 1, -1, -1, 1, -8);
        due("rounds() of one that comes apart faster", y.rounds(), 7);
    }

    private static void promise11Ends() {
        CanonNames x = Edges.withBlanks(8);
        for (int i = 0; i < 8; i++) {
            due("one group, first(0, " + i + ")", x.first(0, i), i + 1);
        }
        CanonNames marked = Edges.made(HashEdgesTest::marked);
        int seen = 0;
        for (int group = 0; group < 8; group++) {
            int blank = marked.first(group, 0);
            due("eight groups, first(" + group + ", 0) is a blank", blank >= 1 && blank <= 8 ? 1 : 0, 1);
            seen |= 1 << blank;
        }
        due("each blank stands in one of eight groups", seen, 0x1fe);
        CanonNames lone = Edges.withBlanks(1);
        due("a lone blank", lone.first(0, 0), 1);
        Edges.leaves("first(0, 7)", y -> Edges.blanks(y, 8), y -> y.first(0, 7), 8);
    }

    private static void promise11AsItIs() {
        CanonNames x = Edges.withBlanks(2);
        due("one group", x.first(0, 1), 2);
        Edges.triples(x, -1, 1, 1);
        due("two groups", x.first(0, 1), BAD);
        due("two groups", x.first(0, 0) + x.first(1, 0), 3);
        due("it goes", x.drop(-1, 1, 1), 1);
        due("one group again", x.first(0, 1), 2);
        due("one group again", x.first(1, 0), BAD);
        due("blank()", x.blank(), 3);
        due("a blank more", x.first(0, 2), 3);
        due("keep()", x.keep(), 0);
        due("a new graph", x.first(0, 0), BAD);
    }

    private static void promise11NoSuchGroup() {
        CanonNames none = new CanonNames();
        CanonNames one = Edges.withBlanks(8);
        CanonNames eight = Edges.made(HashEdgesTest::marked);
        for (int group : Edges.with(Edges.FAR, -1, 8, 9, -8)) {
            for (int i = 0; i < 2; i++) {
                due("no blanks, first(" + group + ", " + i + ")", none.first(group, i), BAD);
                due("one group, first(" + group + ", " + i + ")", one.first(group, i), BAD);
                due("eight groups, first(" + group + ", " + i + ")", eight.first(group, i), BAD);
            }
            due("one group, first(" + group + ", " + group + ")", one.first(group, group), BAD);
        }
        due("no blanks, group 0", none.first(0, 0), BAD);
        due("one group, group 0", one.first(0, 0), 1);
        due("one group, group 1", one.first(1, 0), BAD);
        due("eight groups, group 7", eight.first(7, 0) > 0 ? 1 : 0, 1);
        due("eight groups, group 8", eight.first(8, 0), BAD);
        Edges.leaves("group 3 of three", Edges::busy, x -> x.first(3, 0), BAD);
        Edges.leaves("group -1", Edges::busy, x -> x.first(-1, 0), BAD);
        Edges.leaves("the least ints", Edges::brimful, x -> x.first(Integer.MIN_VALUE, Integer.MIN_VALUE), BAD);
        Edges.leaves("the greatest ints", Edges::brimful, x -> x.first(Integer.MAX_VALUE, Integer.MAX_VALUE), BAD);
        Edges.leaves("no blanks", x -> { }, x -> x.first(0, 0), BAD);
    }

    /** Behind a group's last blank there is none of the next group, before its first none of the one before. */
    private static void promise11NoSuchBlank() {
        CanonNames x = Edges.withBlanks(8);
        Edges.triples(x, -3, 1, 1, -6, 1, 1, -7, 1, 1);
        int threes = x.first(0, 3) == BAD ? 0 : 1;
        int[] three = {3, 6, 7};
        int[] five = {1, 2, 4, 5, 8};
        for (int i = 0; i < 8; i++) {
            due("a group of three, blank " + i, x.first(threes, i), i < 3 ? three[i] : BAD);
            due("a group of five, blank " + i, x.first(1 - threes, i), i < 5 ? five[i] : BAD);
        }
        for (int i : Edges.with(Edges.FAR, -1, -2, -8, 8, 9)) {
            due("first(0, " + i + ")", x.first(0, i), BAD);
            due("first(1, " + i + ")", x.first(1, i), BAD);
        }
        CanonNames eight = Edges.withBlanks(8);
        due("blank 7 of a group of eight", eight.first(0, 7), 8);
        due("blank 8 of a group of eight", eight.first(0, 8), BAD);
        Edges.leaves("blank 1 of one", Edges::busy, y -> y.first(0, 1), BAD);
        Edges.leaves("blank -1", Edges::busy, y -> y.first(1, -1), BAD);
        Edges.leaves("blank 8 of eight", Edges::brimful, y -> y.first(0, 8), BAD);
        Edges.leaves("the greatest int", Edges::brimful, y -> y.first(0, Integer.MAX_VALUE), BAD);
        Edges.leaves("the least int", Edges::brimful, y -> y.first(0, Integer.MIN_VALUE), BAD);
    }
}
