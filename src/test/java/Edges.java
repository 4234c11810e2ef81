import java.nio.ByteBuffer;
import java.security.MessageDigest;
import java.security.NoSuchAlgorithmException;
import java.util.ArrayList;
import java.util.List;
import java.util.function.Consumer;
import java.util.function.ToLongFunction;

/**
 * What the tests of boundary cases share. Each of these is about one sentence of the document: it is
 * told by the promise's number (or what else stands over the sentence) and by the sentence's words.
 * No object gets more than 512 calls, as behind these its answers are free.
 */
final class Edges {
    static final int BAD = -1;
    static final int FULL = -2;
    /** What octet() answers here when it throws as the document says. */
    static final long THROWS = Long.MAX_VALUE;
    /** The ends of an int, and numbers that would be small ones if their higher bits were lost. */
    static final int[] FAR = {
        Integer.MIN_VALUE, Integer.MIN_VALUE + 1, Integer.MIN_VALUE + 8, -(1 << 20) + 1, -65535, -1023, -1022,
        1024, 1025, 65537, (1 << 20) + 1, (1 << 30) + 1, Integer.MAX_VALUE - 7, Integer.MAX_VALUE - 1, Integer.MAX_VALUE
    };
    /** The digest of no bytes, as told in the examples of FIPS 180. */
    static final int[] NO_BYTES = {
        0xe3b0c442, 0x98fc1c14, 0x9afbf4c8, 0x996fb924, 0x27ae41e4, 0x649b934c, 0xa495991b, 0x7852b855
    };

    private static String sentence = "";

    private Edges() {
    }

    static void test(String where, String words, Runnable test) {
        sentence = where + ", \"" + words + "\"";
        test.run();
    }

    static void due(String what, long got, long want) {
        Check.due(sentence + ": " + what, got, want);
    }

    static int[] with(int[] numbers, int... more) {
        int[] all = java.util.Arrays.copyOf(more, more.length + numbers.length);
        System.arraycopy(numbers, 0, all, more.length, numbers.length);
        return all;
    }

    // Making graphs.

    static CanonNames made(Consumer<CanonNames> make) {
        CanonNames x = new CanonNames();
        make.accept(x);
        return x;
    }

    static CanonNames withBlanks(int n) {
        CanonNames x = new CanonNames();
        blanks(x, n);
        return x;
    }

    static void blanks(CanonNames x, int n) {
        for (int i = 1; i <= n; i++) {
            due("blank " + i, x.blank(), i);
        }
    }

    /** New triples, three points each. */
    static void triples(CanonNames x, int... points) {
        for (int i = 0; i < points.length; i += 3) {
            int s = points[i];
            int p = points[i + 1];
            int o = points[i + 2];
            due("new triple " + s + " " + p + " " + o, x.triple(s, p, o), 1);
        }
    }

    /** So many triples: (1, 1, 1), (2, 1, 1), .. */
    static void fill(CanonNames x, int count) {
        for (int i = 1; i <= count; i++) {
            triples(x, i, 1, 1);
        }
    }

    /** Two graphs are kept, the second one was named, and the third is much like the first one. */
    static void busy(CanonNames x) {
        blanks(x, 3);
        triples(x, -1, 1, -2, -2, 1, -3, 5, 6, 7);
        due("kept", x.keep(), 0);
        blanks(x, 4);
        triples(x, -1, 2, 9, -3, 2, 9, 1, 1, 1);
        due("named", x.name(4), 4);
        due("kept", x.keep(), 1);
        blanks(x, 3);
        triples(x, -3, 1, -2, -2, 1, -1, 5, 6, 7);
    }

    /** Eight graphs are kept, and another one with eight blanks and forty triples was named. */
    static void brimful(CanonNames x) {
        for (int i = 0; i < 8; i++) {
            triples(x, i + 1, 1, 1);
            due("kept", x.keep(), i);
        }
        blanks(x, 8);
        for (int b = 1; b <= 8; b++) {
            int next = b % 8 + 1;
            triples(x, -b, 1, -next, -next, 2, -b, -b, -b, 3, 4, 5, -b, b, 1, 1);
        }
        due("named", x.name(40320), 8);
    }

    // Looking at objects.

    /** That a call answers as due and leaves all as it was: as it is with an object that did not get it. */
    static void leaves(String what, Consumer<CanonNames> make, ToLongFunction<CanonNames> call, long want) {
        CanonNames x = made(make);
        CanonNames twin = made(make);
        due(what, call.applyAsLong(x), want);
        List<String> is = sight(x);
        List<String> was = sight(twin);
        due(what + ", how much is seen behind it", is.size(), was.size());
        for (int i = 0; i < is.size() && i < was.size(); i++) {
            due(what + ", behind it " + is.get(i) + ", without it " + was.get(i), is.get(i).equals(was.get(i)) ? 1 : 0, 1);
        }
    }

    /** All that can be seen, in at most 405 calls; the last of these do change the object. */
    private static List<String> sight(CanonNames x) {
        List<String> seen = new ArrayList<>();
        int blanks = x.blanks();
        seen.add("blanks() " + blanks);
        seen.add("triples() " + x.triples());
        seen.add("rounds() " + x.rounds());
        for (int b = 1; b <= blanks; b++) {
            for (int i = 0; i < 8; i++) {
                seen.add("hash(" + b + ", " + i + ") " + x.hash(b, i));
            }
        }
        addGroups(seen, x);
        addNamed(seen, x);
        for (int i = 0; i < 32; i++) {
            seen.add("octet(" + i + ") " + x.octet(i));
        }
        for (int other = 0; other <= 8; other++) {
            seen.add("isomorphic(" + other + ") " + x.isomorphic(other));
            seen.add("ways(" + other + ") " + x.ways(other));
            seen.add("equal(" + other + ") " + x.equal(other));
        }
        // The triples themselves show only by a naming.
        seen.add("name() " + x.name(Long.MAX_VALUE));
        addNamed(seen, x);
        seen.add("keep() " + x.keep());
        return seen;
    }

    private static void addGroups(List<String> seen, CanonNames x) {
        int blank = 0;
        for (int group = 0; group < 9; group++) {
            for (int i = 0; i < 9 && (blank != BAD || i == 0); i++) {
                blank = x.first(group, i);
                seen.add("first(" + group + ", " + i + ") " + blank);
                if (blank == BAD && i == 0) {
                    return;
                }
            }
            blank = 0;
        }
    }

    private static void addNamed(List<String> seen, CanonNames x) {
        for (int b = 1; b <= 9; b++) {
            seen.add("named(" + b + ") " + x.named(b));
        }
        int point = 1;
        for (int at = 0; at < 123 && point != 0; at++) {
            point = x.form(at / 3, at % 3);
            seen.add("form(" + at / 3 + ", " + at % 3 + ") " + point);
        }
    }

    static void formIs(String what, CanonNames x, int... points) {
        for (int i = 0; i < points.length; i++) {
            due(what + ", form(" + i / 3 + ", " + i % 3 + ")", x.form(i / 3, i % 3), points[i]);
        }
        due(what + ", behind the form", x.form(points.length / 3, 0), 0);
    }

    static void namingIs(String what, CanonNames x, int... numbers) {
        for (int i = 0; i < numbers.length; i++) {
            due(what + ", named(" + (i + 1) + ")", x.named(i + 1), numbers[i]);
        }
        due(what + ", behind the last blank", x.named(numbers.length + 1), BAD);
    }

    static void hashIs(String what, CanonNames x, int blank, int[] words) {
        for (int i = 0; i < 8; i++) {
            due(what + ", hash(" + blank + ", " + i + ")", x.hash(blank, i), words[i]);
        }
    }

    static void digestIs(String what, CanonNames x, int[] words) {
        for (int i = 0; i < 32; i++) {
            due(what + ", octet(" + i + ")", octet(x, i), (byte) (words[i / 4] >>> 24 - i % 4 * 8));
        }
    }

    /** An octet, or THROWS; any other exception, and one that the machine made by itself, is wrong. */
    static long octet(CanonNames x, int i) {
        try {
            return x.octet(i);
        } catch (ArrayIndexOutOfBoundsException e) {
            boolean machine = e.getMessage() != null && e.getMessage().startsWith("Index ");
            due("octet(" + i + ") thrown by the machine", machine ? 1 : 0, 0);
            due("octet(" + i + ") throws that class", e.getClass() == ArrayIndexOutOfBoundsException.class ? 1 : 0, 1);
            return THROWS;
        }
    }

    // Digests by the Java library, of bytes that are laid by hand.

    /** Words of 32 bits as bytes, the highest one first. */
    static byte[] laid(int... words) {
        ByteBuffer bytes = ByteBuffer.allocate(4 * words.length);
        for (int word : words) {
            bytes.putInt(word);
        }
        return bytes.array();
    }

    static int[] digest(byte[]... parts) {
        try {
            MessageDigest sha = MessageDigest.getInstance("SHA-256");
            for (byte[] part : parts) {
                sha.update(part);
            }
            int[] words = new int[8];
            ByteBuffer.wrap(sha.digest()).asIntBuffer().get(words);
            return words;
        } catch (NoSuchAlgorithmException e) {
            throw new IllegalStateException(e);
        }
    }
}
