/** Each promise by hand-written calls: ordinary ones, the edges that the document names, wrong ones. */
public final class PromisesTest {
    private static final int BAD = -1;
    private static final int FULL = -2;
    /** Every number that is no point of a graph with two blanks. */
    private static final int[] NO_POINTS = {0, -3, -4, -9, 1001, Integer.MAX_VALUE, Integer.MIN_VALUE};
    /** The digest of no bytes (FIPS 180-4's well-known one), and the digest of that. */
    private static final int[] NOTHING = {
        0xe3b0c442, 0x98fc1c14, 0x9afbf4c8, 0x996fb924, 0x27ae41e4, 0x649b934c, 0xa495991b, 0x7852b855
    };
    private static final int[] LONE = {
        0x5df6e0e2, 0x761359d3, 0x0a827505, 0x8e299fcc, 0x03815345, 0x45f55cf4, 0x3e41983f, 0x5d4c9456
    };

    public static void main(String[] args) {
        newObject();
        blank();
        triple();
        tripleFull();
        drop();
        name();
        nameLimits();
        named();
        form();
        octet();
        hash();
        hashBytes();
        rounds();
        first();
        keep();
        isomorphic();
        ways();
        equal();
        counts();
        Check.end("PromisesTest");
    }

    private static void due(String what, long got, long want) {
        Check.due(what, got, want);
    }

    private static CanonNames withBlanks(int n) {
        CanonNames x = new CanonNames();
        addBlanks(x, n);
        return x;
    }

    private static void addBlanks(CanonNames x, int n) {
        for (int i = 1; i <= n; i++) {
            due("1 to 2: blank()", x.blank(), i);
        }
    }

    /** Triples told three numbers each, all of them new. */
    private static void add(CanonNames x, int... points) {
        for (int i = 0; i < points.length; i += 3) {
            due("3: a new triple", x.triple(points[i], points[i + 1], points[i + 2]), 1);
        }
    }

    private static void formIs(String what, CanonNames x, int... points) {
        for (int i = 0; i < points.length; i++) {
            due(what + ", point " + i, x.form(i / 3, i % 3), points[i]);
        }
        for (int k = 0; k < 3; k++) {
            due(what + ", behind its end", x.form(points.length / 3, k), 0);
        }
    }

    private static void namingIs(String what, CanonNames x, int... numbers) {
        for (int i = 0; i < numbers.length; i++) {
            due(what + ", blank " + (i + 1), x.named(i + 1), numbers[i]);
        }
        due(what + ", behind the last blank", x.named(numbers.length + 1), BAD);
    }

    private static void digestIs(String what, CanonNames x, int[] words) {
        for (int i = 0; i < 32; i++) {
            due(what + ", octet " + i, x.octet(i), (byte) (words[i / 4] >> 24 - i % 4 * 8));
        }
    }

    private static void newObject() {
        CanonNames x = new CanonNames();
        due("1: blanks", x.blanks(), 0);
        due("1: triples", x.triples(), 0);
        due("1: rounds", x.rounds(), 1);
        due("1: no groups", x.first(0, 0), BAD);
        due("1: none kept", x.equal(0), BAD);
        due("1: none kept", x.isomorphic(0), BAD);
        due("1: none kept", x.ways(0), BAD);
        due("1: BAD", CanonNames.BAD, BAD);
        due("1: FULL", CanonNames.FULL, FULL);
        namingIs("1: nothing named", x);
        formIs("1: nothing named", x);
        digestIs("1: nothing named", x, NOTHING);
        CanonNames other = withBlanks(3);
        add(other, -1, 1, -2);
        due("1: objects share nothing", x.blanks(), 0);
        due("1: objects share nothing", x.triples(), 0);
    }

    private static void blank() {
        CanonNames x = withBlanks(8);
        due("2: the ninth", x.blank(), FULL);
        due("2: the ninth again", x.blank(), FULL);
        due("2: FULL adds none", x.blanks(), 8);
        due("2: a new graph numbers from 1", x.keep(), 0);
        due("2: a new graph numbers from 1", x.blank(), 1);
    }

    private static void triple() {
        CanonNames x = new CanonNames();
        due("3: a blank that is not yet", x.triple(-1, 1, 1), BAD);
        addBlanks(x, 2);
        for (int none : NO_POINTS) {
            due("3: no point first, " + none, x.triple(none, 1, 1), BAD);
            due("3: no point second, " + none, x.triple(1, none, 1), BAD);
            due("3: no point third, " + none, x.triple(1, 1, none), BAD);
        }
        due("3: BAD adds none", x.triples(), 0);
        add(x, 1, 1000, 1, -1, -2, -2, -2, -2, -1, 1000, 1, 1, 1, 1, 1000);
        due("3: it is there", x.triple(-1, -2, -2), 0);
        due("3: the order of points counts", x.triple(-2, -1, -2), 1);
        due("3: triples", x.triples(), 6);
    }

    private static void tripleFull() {
        CanonNames x = withBlanks(1);
        for (int i = 1; i <= 40; i++) {
            add(x, i, 1, -1);
        }
        due("3: the 41st", x.triple(41, 1, -1), FULL);
        due("3: there, though full", x.triple(40, 1, -1), 0);
        due("3: no point, though full", x.triple(0, 1, -1), BAD);
        due("3: FULL adds none", x.triples(), 40);
        due("3: room again", x.drop(7, 1, -1), 1);
        due("3: room again", x.triple(41, 1, -1), 1);
        due("3: full again", x.triple(7, 1, -1), FULL);
        due("3: all forty are named", x.name(1), 1);
        due("3: the last of forty", x.form(39, 0), 41);
    }

    private static void drop() {
        CanonNames x = withBlanks(2);
        add(x, -1, 1, -2, -2, 1, -1, 3, 2, 1, 1, 2, 3);
        due("4: not there", x.drop(-1, 1, -1), 0);
        due("4: its points turned", x.drop(2, 1, 3), 0);
        for (int none : NO_POINTS) {
            due("4: no point first, " + none, x.drop(none, 1, -2), 0);
            due("4: no point second, " + none, x.drop(-1, none, -2), 0);
            due("4: no point third, " + none, x.drop(-1, 1, none), 0);
        }
        due("4: none went", x.triples(), 4);
        due("4: goes", x.drop(-1, 1, -2), 1);
        due("4: gone", x.drop(-1, 1, -2), 0);
        due("4: one less", x.triples(), 3);
        due("4: goes", x.drop(3, 2, 1), 1);
        due("4: the others stay", x.triple(-2, 1, -1), 0);
        due("4: the others stay", x.triple(1, 2, 3), 0);
        due("4: comes back", x.triple(3, 2, 1), 1);
        due("4: the blanks stay", x.blanks(), 2);
    }

    private static void name() {
        CanonNames x = withBlanks(3);
        add(x, -1, 1, -2, -2, 1, -3, -3, 1, -1);
        due("5: a ring of three", x.name(6), 3);
        formIs("5: a ring of three", x, -3, 1, -2, -2, 1, -1, -1, 1, -3);
        namingIs("5: a ring of three", x, 1, 3, 2);
        CanonNames y = withBlanks(4);
        add(y, -1, 1, -2, -2, 1, -1, -3, 1, -4, -4, 1, -3);
        due("5: two pairs", y.name(24), 8);
        formIs("5: two pairs", y, -4, 1, -3, -3, 1, -4, -2, 1, -1, -1, 1, -2);
        namingIs("5: two pairs", y, 1, 2, 3, 4);
        CanonNames z = withBlanks(8);
        for (int b = 1; b <= 8; b++) {
            add(z, -b, -b, -b, -b, 7, 7);
        }
        due("5: eight alike", z.name(40320), 40320);
        namingIs("5: eight alike", z, 1, 2, 3, 4, 5, 6, 7, 8);
        CanonNames w = new CanonNames();
        add(w, 9, 9, 9, 9, 9, 8, 10, 1, 1);
        due("5: names alone", w.name(1), 1);
        formIs("5: names alone", w, 9, 9, 8, 9, 9, 9, 10, 1, 1);
    }

    private static void nameLimits() {
        CanonNames x = withBlanks(8);
        long[] few = {40319, 1, 0, -1, Long.MIN_VALUE};
        for (long steps : few) {
            due("5: more than " + steps, x.name(steps), -1);
        }
        namingIs("5: still nothing named", x);
        due("5: as many", x.name(40320), 40320);
        due("5: any number", x.name(Long.MAX_VALUE), 40320);
        CanonNames y = withBlanks(4);
        add(y, -1, 1, 1, -2, 1, 1);
        due("5: two groups of two are four namings", y.name(3), -1);
        due("5: two groups of two are four namings", y.name(4), 4);
        CanonNames none = new CanonNames();
        due("5: one naming without blanks", none.name(0), -1);
        due("5: one naming without blanks", none.name(1), 1);
        due("5: steps above an int's", none.name(1L << 32), 1);
        due("5: steps below an int's", none.name(-(1L << 32) + 5), -1);
    }

    private static void named() {
        CanonNames x = withBlanks(2);
        due("6: before any name()", x.named(1), BAD);
        add(x, -2, 1, -1);
        due("6: a name()", x.name(2), 1);
        int one = x.named(1);
        due("6: two numbers", one + x.named(2), 3);
        int[] none = {0, -1, 3, 8, 9, Integer.MAX_VALUE, Integer.MIN_VALUE};
        for (int b : none) {
            due("6: no such blank, " + b, x.named(b), BAD);
        }
        x.blank();
        due("6: a blank since then", x.named(3), BAD);
        due("6: a name() in vain", x.name(0), -1);
        due("6: what was named stays", x.named(1), one);
        due("6: what was named stays", x.named(3), BAD);
        x.keep();
        due("6: stays with a new graph", x.named(2), 3 - one);
        due("6: a latest one without blanks", x.name(1), 1);
        due("6: a latest one without blanks", x.named(1), BAD);
    }

    private static void form() {
        CanonNames x = withBlanks(2);
        add(x, 5, 4, 3, -1, 2, -2, -2, 2, -1, -1, 1000, 1, -2, 1000, 1);
        formIs("7: before any name()", x);
        due("7: a name()", x.name(2), 2);
        formIs("7: sorted", x, -2, 2, -1, -2, 1000, 1, -1, 2, -2, -1, 1000, 1, 5, 4, 3);
        int[] none = {-1, 5, 40, Integer.MAX_VALUE, Integer.MIN_VALUE};
        for (int i : none) {
            due("7: no triple " + i, x.form(i, 0), 0);
        }
        int[] places = {-1, 3, Integer.MAX_VALUE, Integer.MIN_VALUE};
        for (int k : places) {
            due("7: no point " + k, x.form(0, k), 0);
        }
        x.drop(5, 4, 3);
        due("7: in vain", x.name(1), -1);
        due("7: stays", x.form(4, 0), 5);
        x.keep();
        due("7: stays with a new graph", x.form(4, 2), 3);
        due("7: a latest one", x.name(1), 1);
        formIs("7: a latest one without triples", x);
    }

    private static void octet() {
        CanonNames x = withBlanks(1);
        int[] none = {-1, 32, 33, 256, Integer.MAX_VALUE, Integer.MIN_VALUE};
        for (int i : none) {
            Check.octetThrows("8: before any name()", x, i);
        }
        add(x, -1, 1, 1000);
        digestIs("8: before any name()", x, NOTHING);
        due("8: a name()", x.name(1), 1);
        byte[] message = {-1, -1, -1, -1, 0, 0, 0, 1, 0, 0, 3, -24};
        digestIs("8: one triple", x, words(message));
        for (int i : none) {
            Check.octetThrows("8: after a name()", x, i);
        }
        add(x, -1, 1, 2);
        due("8: in vain", x.name(0), -1);
        digestIs("8: stays", x, words(message));
        x.keep();
        digestIs("8: stays with a new graph", x, words(message));
        due("8: a latest one", x.name(1), 1);
        digestIs("8: no triples", x, NOTHING);
    }

    private static int[] words(byte[] message) {
        try {
            byte[] digest = java.security.MessageDigest.getInstance("SHA-256").digest(message);
            int[] words = new int[8];
            java.nio.ByteBuffer.wrap(digest).asIntBuffer().get(words);
            return words;
        } catch (java.security.NoSuchAlgorithmException e) {
            throw new IllegalStateException(e);
        }
    }

    private static void hashIs(String what, CanonNames x, int blank, int[] words) {
        for (int i = 0; i < 8; i++) {
            due(what + ", word " + i, x.hash(blank, i), words[i]);
        }
    }

    private static void hash() {
        CanonNames x = new CanonNames();
        due("9: no blanks", x.hash(1, 0), 0);
        addBlanks(x, 1);
        hashIs("9: a lone blank's round is taken", x, 1, LONE);
        int[] none = {0, -1, 2, 8, 9, Integer.MAX_VALUE, Integer.MIN_VALUE};
        for (int b : none) {
            due("9: no blank " + b, x.hash(b, 0), 0);
        }
        int[] words = {-1, 8, Integer.MAX_VALUE, Integer.MIN_VALUE};
        for (int i : words) {
            due("9: no word " + i, x.hash(1, i), 0);
        }
        addSecond(x);
        hashIs("9: two alike, no round is taken", x, 1, NOTHING);
        hashIs("9: two alike, no round is taken", x, 2, NOTHING);
        add(x, 1, 2, 3);
        hashIs("9: a triple of names is about no blank", x, 1, NOTHING);
        add(x, -2, 2, 3);
        hashIs("9: a triple about blank 2", x, 1, LONE);
        x.drop(-2, 2, 3);
        hashIs("9: and without it again", x, 1, NOTHING);
        x.keep();
        due("9: a new graph", x.hash(1, 0), 0);
    }

    private static void addSecond(CanonNames x) {
        due("2: blank()", x.blank(), 2);
    }

    /** The messages are laid here byte by byte, for one blank and for two. */
    private static void hashBytes() {
        CanonNames x = withBlanks(1);
        add(x, -1, 300, -1, -1, 2, 5, 7, -1, 5);
        java.nio.ByteBuffer m = java.nio.ByteBuffer.allocate(200);
        put(m, NOTHING);
        m.put(new byte[] {0, 0, 0, 0, 7, 1, 0, 0, 0, 0, 5});
        m.put(new byte[] {1, 0, 0, 0, 0, 2, 0, 0, 0, 0, 5});
        m.put(new byte[] {1, 0, 0, 0, 1, 44, 1});
        hashIs("9: one blank's bytes", x, 1, words(java.util.Arrays.copyOf(m.array(), m.position())));
        CanonNames y = withBlanks(2);
        add(y, -1, 3, -2);
        m.clear();
        put(m, NOTHING);
        m.put(new byte[] {1, 0, 0, 0, 0, 3, 2});
        put(m, NOTHING);
        hashIs("9: the first of two", y, 1, words(java.util.Arrays.copyOf(m.array(), m.position())));
        m.clear();
        put(m, NOTHING);
        m.put((byte) 2);
        put(m, NOTHING);
        m.put(new byte[] {0, 0, 0, 0, 3, 1});
        hashIs("9: the second of two", y, 2, words(java.util.Arrays.copyOf(m.array(), m.position())));
    }

    private static void put(java.nio.ByteBuffer message, int[] words) {
        for (int word : words) {
            message.putInt(word);
        }
    }

    private static void rounds() {
        CanonNames x = new CanonNames();
        due("10: no blanks", x.rounds(), 1);
        x.blank();
        due("10: one blank", x.rounds(), 1);
        add(x, -1, 1, 1);
        due("10: one blank with a triple", x.rounds(), 1);
        x.blank();
        due("10: two blanks that differ at once", x.rounds(), 2);
        add(x, -2, 1, 1);
        due("10: two blanks alike", x.rounds(), 1);
        CanonNames chain = withBlanks(8);
        for (int b = 1; b <= 7; b++) {
            add(chain, -b, 1, -b - 1);
        }
        // Each round tells two more, from both ends on to the middle; a fifth one tells no more.
        due("10: a chain of eight", chain.rounds(), 5);
        CanonNames loop = withBlanks(8);
        add(loop, -1, 2, 2);
        for (int b = 1; b <= 8; b++) {
            add(loop, -b, 1, b == 8 ? -1 : -b - 1);
        }
        due("10: a ring with a mark", loop.rounds(), 5);
        due("10: the marked one goes alone", loop.drop(-1, 2, 2), 1);
        due("10: a ring", loop.rounds(), 1);
    }

    private static void first() {
        CanonNames x = withBlanks(5);
        for (int i = 0; i < 5; i++) {
            due("11: one group", x.first(0, i), i + 1);
        }
        due("11: behind its end", x.first(0, 5), BAD);
        due("11: no second group", x.first(1, 0), BAD);
        add(x, -2, 1, 1, -5, 1, 1);
        // Groups go by hashes without sign; which one is first is seen from these.
        boolean marked = Integer.compareUnsigned(x.hash(2, 0), x.hash(1, 0)) < 0;
        int pair = marked ? 0 : 1;
        due("11: the pair", x.first(pair, 0), 2);
        due("11: the pair", x.first(pair, 1), 5);
        due("11: the pair's end", x.first(pair, 2), BAD);
        due("11: the three", x.first(1 - pair, 0), 1);
        due("11: the three", x.first(1 - pair, 1), 3);
        due("11: the three", x.first(1 - pair, 2), 4);
        due("11: the three's end", x.first(1 - pair, 3), BAD);
        int[] none = {-1, 2, 8, 9, Integer.MAX_VALUE, Integer.MIN_VALUE};
        for (int g : none) {
            due("11: no group " + g, x.first(g, 0), BAD);
        }
        int[] places = {-1, 5, 8, Integer.MAX_VALUE, Integer.MIN_VALUE};
        for (int i : places) {
            due("11: no blank " + i, x.first(0, i), BAD);
        }
        x.keep();
        due("11: a new graph", x.first(0, 0), BAD);
    }

    private static void keep() {
        CanonNames x = withBlanks(2);
        add(x, -1, 1, -2);
        for (int i = 0; i < 8; i++) {
            due("12: numbers from 0", x.keep(), i);
            due("12: a new graph", x.blanks() + x.triples(), 0);
        }
        addBlanks(x, 1);
        add(x, -1, 1, 1);
        due("12: a ninth", x.keep(), FULL);
        due("12: the graph stays", x.blanks(), 1);
        due("12: the graph stays", x.triples(), 1);
        due("12: the kept ones stay", x.equal(7), 0);
        due("12: there is no ninth", x.equal(8), BAD);
        addSecond(x);
        x.drop(-1, 1, 1);
        add(x, -1, 1, -2);
        due("12: the first one is as it was", x.equal(0), 1);
    }

    private static void isomorphic() {
        CanonNames x = withBlanks(6);
        add(x, -1, 1, -2, -2, 1, -3, -3, 1, -4, -4, 1, -5, -5, 1, -6, -6, 1, -1);
        x.keep();
        int[] none = {-1, 1, 8, Integer.MAX_VALUE, Integer.MIN_VALUE};
        for (int other : none) {
            due("13: none kept at " + other, x.isomorphic(other), BAD);
        }
        addBlanks(x, 6);
        add(x, -1, 1, -2, -2, 1, -3, -3, 1, -1, -4, 1, -5, -5, 1, -6, -6, 1, -4);
        due("13: two rings, hashes alike", x.isomorphic(0), 0);
        x.drop(-3, 1, -1);
        x.drop(-6, 1, -4);
        add(x, -3, 1, -4, -6, 1, -1);
        due("13: one ring", x.isomorphic(0), 1);
        x.drop(-6, 1, -1);
        due("13: a triple less", x.isomorphic(0), 0);
        add(x, -6, 2, -1);
        due("13: another name", x.isomorphic(0), 0);
        CanonNames y = withBlanks(2);
        add(y, -1, 1, 1);
        y.keep();
        addBlanks(y, 1);
        add(y, -1, 1, 1);
        due("13: a blank less", y.isomorphic(0), 0);
        addSecond(y);
        due("13: as many blanks", y.isomorphic(0), 1);
        y.drop(-1, 1, 1);
        add(y, -2, 1, 1);
        due("13: the other blank", y.isomorphic(0), 1);
        y.drop(-2, 1, 1);
        add(y, 2, 1, 1);
        due("13: names are not changed", y.isomorphic(0), 0);
        CanonNames z = new CanonNames();
        add(z, 1, 2, 3);
        z.keep();
        add(z, 1, 2, 4);
        due("13: names alone, others", z.isomorphic(0), 0);
        add(z, 1, 2, 3);
        z.drop(1, 2, 4);
        due("13: names alone, the same", z.isomorphic(0), 1);
    }

    private static void ways() {
        CanonNames x = withBlanks(8);
        x.keep();
        addBlanks(x, 8);
        due("14: eight free ones", x.ways(0), 40320);
        int[] none = {-1, 1, 8, Integer.MAX_VALUE, Integer.MIN_VALUE};
        for (int other : none) {
            due("14: none kept at " + other, x.ways(other), BAD);
        }
        add(x, -1, 1, -2);
        due("14: it can not be done", x.ways(0), 0);
        x.keep();
        addBlanks(x, 8);
        add(x, -7, 1, -3);
        due("14: six free ones", x.ways(1), 720);
        x.drop(-7, 1, -3);
        add(x, -7, -7, -3);
        due("14: another place", x.ways(1), 0);
        CanonNames y = withBlanks(8);
        ring(y, 1, 2, 3, 4, 5, 6, 7, 8);
        y.keep();
        addBlanks(y, 8);
        ring(y, 3, 8, 1, 6, 2, 5, 7, 4);
        due("14: a ring of eight, both ways round", y.ways(0), 16);
        CanonNames z = new CanonNames();
        z.keep();
        due("14: nothing, in one way", z.ways(0), 1);
    }

    private static void ring(CanonNames x, int... blanks) {
        for (int i = 0; i < blanks.length; i++) {
            int next = blanks[(i + 1) % blanks.length];
            add(x, -blanks[i], 1, -next, -next, 1, -blanks[i]);
        }
    }

    private static void equal() {
        CanonNames x = withBlanks(2);
        add(x, -1, 1, 5, 2, 2, 2);
        x.keep();
        int[] none = {-1, 1, 8, Integer.MAX_VALUE, Integer.MIN_VALUE};
        for (int other : none) {
            due("15: none kept at " + other, x.equal(other), BAD);
        }
        addBlanks(x, 1);
        add(x, 2, 2, 2, -1, 1, 5);
        due("15: a blank less", x.equal(0), 0);
        addSecond(x);
        due("15: the very same, in another order", x.equal(0), 1);
        due("15: isomorphic too", x.isomorphic(0), 1);
        add(x, 3, 3, 3);
        due("15: a triple more", x.equal(0), 0);
        x.drop(3, 3, 3);
        x.drop(-1, 1, 5);
        add(x, -2, 1, 5);
        due("15: other blanks, though isomorphic", x.equal(0), 0);
        due("15: other blanks, though isomorphic", x.isomorphic(0), 1);
    }

    private static void counts() {
        CanonNames x = withBlanks(3);
        add(x, 1, 1, 1, -3, 1, -3);
        x.triple(1, 1, 1);
        x.triple(0, 1, 1);
        due("16: triples()", x.triples(), 2);
        x.drop(1, 1, 1);
        x.drop(1, 1, 1);
        due("16: triples()", x.triples(), 1);
        due("17: blanks()", x.blanks(), 3);
        x.name(50000);
        x.isomorphic(0);
        due("16: triples() after looking", x.triples(), 1);
        due("17: blanks() after looking", x.blanks(), 3);
        x.keep();
        due("16: triples() of a new graph", x.triples(), 0);
        due("17: blanks() of a new graph", x.blanks(), 0);
    }
}
