/**
 * Graphs some of whose points have no names: names for these that are alike for equal graphs, by
 * digests of what lies around them and a search among what these leave open.
 */
public final class CanonNames {
    public static final int BAD = -1;
    public static final int FULL = -2;

    private static final int MOST_NAMES = 1000;
    private static final int MOST_BLANKS = 8;
    private static final int MOST_TRIPLES = 40;
    private static final int MOST_KEPT = 8;
    private static final int PLACES = 3;
    private static final int WORDS = 8;
    private static final int OCTETS = 32;

    // A triple is one int, ten bits a place, so that triples compare as plain numbers do.
    private static final int PLACE_BITS = 10;
    private static final int PLACE_MASK = 1023;

    private final Hasher hasher = new Hasher();
    private final Matcher matcher = new Matcher();
    private final LeastRow leastRow = new LeastRow();
    private final Named latest = new Named();
    private final Graph[] kept = new Graph[MOST_KEPT];
    private int keptCount = 0;
    private Graph graph = new Graph();

    public CanonNames() {
    }

    public int blank() {
        if (graph.blanks >= MOST_BLANKS) {
            return FULL;
        }
        graph.blanks++;
        graph.hashed = false;
        return graph.blanks;
    }

    public int triple(int s, int p, int o) {
        if (!graph.hasPoints(s, p, o)) {
            return BAD;
        }
        int key = keyOf(s, p, o);
        if (graph.holds(key)) {
            return 0;
        }
        if (graph.triples >= MOST_TRIPLES) {
            return FULL;
        }
        graph.insert(key);
        return 1;
    }

    public int drop(int s, int p, int o) {
        if (!graph.hasPoints(s, p, o)) {
            return 0;
        }
        int key = keyOf(s, p, o);
        if (!graph.holds(key)) {
            return 0;
        }
        graph.remove(key);
        return 1;
    }

    public int name(long steps) {
        hasher.refresh(graph);
        if (graph.groups.namings() > steps) {
            return -1;
        }
        leastRow.find(graph, latest.form);
        // Lesser numbers are tried first, blank 1 before blank 2, so that the first find is THE NAMING.
        if (matcher.matches(graph, latest.form)) {
            latest.adopt(matcher.images, graph.blanks);
        }
        return matcher.automorphisms(graph);
    }

    public int named(int blank) {
        if (blank < 1 || blank > latest.form.blanks) {
            return BAD;
        }
        return latest.numbers[blank - 1];
    }

    public int form(int i, int k) {
        if (i < 0 || i >= latest.form.triples || k < 0 || k >= PLACES) {
            return 0;
        }
        return pointAt(latest.form.keys[i], k);
    }

    public byte octet(int i) throws ArrayIndexOutOfBoundsException {
        if (i < 0 || i >= OCTETS) {
            throw new ArrayIndexOutOfBoundsException("there are octets 0 .. 31 only");
        }
        latest.refreshDigest(hasher.sha);
        return (byte) (latest.digest[i >> 2] >>> (24 - 8 * (i & 3)));
    }

    public int hash(int blank, int i) {
        if (blank < 1 || blank > graph.blanks || i < 0 || i >= WORDS) {
            return 0;
        }
        hasher.refresh(graph);
        return graph.groups.hashes[(blank - 1) * WORDS + i];
    }

    public int rounds() {
        hasher.refresh(graph);
        return graph.rounds;
    }

    public int first(int group, int i) {
        hasher.refresh(graph);
        Groups groups = graph.groups;
        if (group < 0 || group >= groups.count || i < 0 || i >= groups.sizeOf(group)) {
            return BAD;
        }
        return groups.order[groups.start[group] + i] + 1;
    }

    public int keep() {
        if (keptCount >= MOST_KEPT) {
            return FULL;
        }
        kept[keptCount] = graph;
        graph = new Graph();
        keptCount++;
        return keptCount - 1;
    }

    public int isomorphic(int other) {
        Graph target = keptAt(other);
        if (target == null) {
            return BAD;
        }
        return becomes(target) ? 1 : 0;
    }

    public int ways(int other) {
        Graph target = keptAt(other);
        if (target == null) {
            return BAD;
        }
        // Any one way, behind each automorphism in turn, gives every way exactly once.
        return becomes(target) ? matcher.automorphisms(graph) : 0;
    }

    public int equal(int other) {
        Graph target = keptAt(other);
        if (target == null) {
            return BAD;
        }
        return graph.hasSizesOf(target) && sameRows(graph.keys, target.keys, graph.triples) ? 1 : 0;
    }

    public int triples() {
        return graph.triples;
    }

    public int blanks() {
        return graph.blanks;
    }

    private Graph keptAt(int other) {
        if (other < 0 || other >= keptCount) {
            return null;
        }
        return kept[other];
    }

    private boolean becomes(Graph target) {
        if (!graph.hasSizesOf(target)) {
            return false;
        }
        hasher.refresh(graph);
        hasher.refresh(target);
        if (!graph.groups.hasHashesOf(target.groups, graph.blanks)) {
            return false;
        }
        return matcher.matches(graph, target);
    }

    private static int keyOf(int s, int p, int o) {
        int first = s + MOST_BLANKS;
        int second = p + MOST_BLANKS;
        int third = o + MOST_BLANKS;
        return first << 2 * PLACE_BITS | second << PLACE_BITS | third;
    }

    /** What a key, of a triple or of a description, has for a place, as it stands there. */
    private static int partAt(int key, int place) {
        return key >> PLACE_BITS * (PLACES - 1 - place) & PLACE_MASK;
    }

    private static int pointAt(int key, int place) {
        return partAt(key, place) - MOST_BLANKS;
    }

    /** The key of a triple whose blanks get the numbers told (by their own ones, from 0). */
    private static int renumbered(int key, int[] numbers) {
        int result = 0;
        for (int shift = PLACE_BITS * (PLACES - 1); shift >= 0; shift -= PLACE_BITS) {
            int part = key >> shift & PLACE_MASK;
            if (part < MOST_BLANKS) {
                part = MOST_BLANKS - numbers[MOST_BLANKS - 1 - part];
            }
            result = result << PLACE_BITS | part;
        }
        return result;
    }

    private static void sort(int[] row, int count) {
        for (int i = 1; i < count; i++) {
            int moving = row[i];
            int at = i;
            for (; at > 0 && row[at - 1] > moving; at--) {
                row[at] = row[at - 1];
            }
            row[at] = moving;
        }
    }

    /** The first place, of a rising row, whose number is not below the one told. */
    private static int placeFor(int number, int[] row, int count) {
        for (int i = 0; i < count; i++) {
            if (row[i] >= number) {
                return i;
            }
        }
        return count;
    }

    private static boolean isIn(int number, int[] row, int count) {
        for (int i = 0; i < count; i++) {
            if (row[i] >= number) {
                return row[i] == number;
            }
        }
        return false;
    }

    private static boolean sameRows(int[] one, int[] other, int count) {
        for (int i = 0; i < count; i++) {
            if (one[i] != other[i]) {
                return false;
            }
        }
        return true;
    }

    /** Blanks inside are counted from 0, blank 1 being 0; its keys rise. */
    private static final class Graph {
        final int[] keys = new int[MOST_TRIPLES];
        int blanks = 0;
        int triples = 0;
        // Whether groups and rounds are those of the graph as it is.
        boolean hashed = false;
        int rounds = 0;
        Groups groups = new Groups();

        boolean hasPoints(int s, int p, int o) {
            return isPoint(s) && isPoint(p) && isPoint(o);
        }

        private boolean isPoint(int point) {
            return point < 0 ? point >= -blanks : point >= 1 && point <= MOST_NAMES;
        }

        boolean holds(int key) {
            return isIn(key, keys, triples);
        }

        boolean hasSizesOf(Graph other) {
            return blanks == other.blanks && triples == other.triples;
        }

        void insert(int key) {
            int at = placeFor(key, keys, triples);
            for (int i = triples; i > at; i--) {
                keys[i] = keys[i - 1];
            }
            keys[at] = key;
            triples++;
            hashed = false;
        }

        void remove(int key) {
            for (int i = placeFor(key, keys, triples) + 1; i < triples; i++) {
                keys[i - 1] = keys[i];
            }
            triples--;
            hashed = false;
        }
    }

    /** The blanks' hashes, and the groups that these make. */
    private static final class Groups {
        final int[] hashes = new int[MOST_BLANKS * WORDS];
        // The blanks, group behind group: the places of a group are its numbers in each naming, less 1.
        final int[] order = new int[MOST_BLANKS];
        final int[] rank = new int[MOST_BLANKS];
        // Where in order each group starts, and behind the last one where it ends.
        final int[] start = new int[MOST_BLANKS + 1];
        int count = 0;

        int sizeOf(int group) {
            return start[group + 1] - start[group];
        }

        void arrange(int blanks) {
            for (int blank = 0; blank < blanks; blank++) {
                int at = blank;
                // Only greater hashes move: blanks with equal ones stay in the order of their numbers.
                for (; at > 0 && compareHashes(order[at - 1], blank) > 0; at--) {
                    order[at] = order[at - 1];
                }
                order[at] = blank;
            }
            count = 0;
            for (int at = 0; at < blanks; at++) {
                if (at == 0 || compareHashes(order[at - 1], order[at]) != 0) {
                    start[count] = at;
                    count++;
                }
                rank[order[at]] = count - 1;
            }
            start[count] = blanks;
        }

        private int compareHashes(int one, int other) {
            for (int i = 0; i < WORDS; i++) {
                // The highest bit is turned so that words compare without sign.
                int a = hashes[one * WORDS + i] ^ 0x80000000;
                int b = hashes[other * WORDS + i] ^ 0x80000000;
                if (a != b) {
                    return a < b ? -1 : 1;
                }
            }
            return 0;
        }

        boolean hasHashesOf(Groups other, int blanks) {
            for (int at = 0; at < blanks; at++) {
                for (int i = 0; i < WORDS; i++) {
                    if (hashes[order[at] * WORDS + i] != other.hashes[other.order[at] * WORDS + i]) {
                        return false;
                    }
                }
            }
            return true;
        }

        int namings() {
            int product = 1;
            for (int group = 0; group < count; group++) {
                for (int size = 2; size <= sizeOf(group); size++) {
                    product *= size;
                }
            }
            return product;
        }
    }

    /** What the latest name() found; before the first one it is that of no blanks and triples. */
    private static final class Named {
        // THE FORM's blanks are the numbers given; of its groups the ranks alone are told.
        final Graph form = new Graph();
        final int[] numbers = new int[MOST_BLANKS];
        final int[] digest = new int[WORDS];
        private boolean digested = false;

        void adopt(int[] images, int blanks) {
            System.arraycopy(images, 0, numbers, 0, blanks);
            digested = false;
        }

        void refreshDigest(Sha sha) {
            if (digested) {
                return;
            }
            sha.begin();
            for (int i = 0; i < form.triples; i++) {
                for (int place = 0; place < PLACES; place++) {
                    sha.put(pointAt(form.keys[i], place), 4);
                }
            }
            sha.end(digest, 0);
            digested = true;
        }
    }

    /** Makes the rounds of a graph. */
    private static final class Hasher {
        // The parts of a description, behind the names: a part is a number that sorts as its bytes do,
        // for a blank's hash the rank of this among all.
        private static final int SELF = MOST_NAMES + 1;
        private static final int OTHERS = MOST_NAMES + 2;
        // The digest of no bytes, written out as every graph begins with it for each blank.
        private static final int[] NO_BYTES = {
            0xe3b0c442, 0x98fc1c14, 0x9afbf4c8, 0x996fb924, 0x27ae41e4, 0x649b934c, 0xa495991b, 0x7852b855
        };

        // No message is begun before another one has ended, so that all digests can share it.
        final Sha sha = new Sha();
        private final int[] descriptions = new int[MOST_TRIPLES];
        private Groups next = new Groups();

        void refresh(Graph graph) {
            if (graph.hashed) {
                return;
            }
            for (int blank = 0; blank < graph.blanks; blank++) {
                System.arraycopy(NO_BYTES, 0, graph.groups.hashes, blank * WORDS, WORDS);
            }
            graph.groups.arrange(graph.blanks);
            boolean lone = graph.blanks < 2;
            boolean more = true;
            graph.rounds = 0;
            for (int made = 0; more && made < MOST_BLANKS; made++) {
                more = makesMore(graph);
                if (more || lone) {
                    takeRound(graph);
                }
                graph.rounds++;
            }
            graph.hashed = true;
        }

        private boolean makesMore(Graph graph) {
            // Two blanks or more whose hashes all differ can not get more different ones.
            if (graph.blanks >= 2 && graph.groups.count == graph.blanks) {
                return false;
            }
            for (int blank = 0; blank < graph.blanks; blank++) {
                int count = describe(graph, blank);
                sort(descriptions, count);
                sha.begin();
                putContent(graph.groups, OTHERS + graph.groups.rank[blank]);
                for (int i = 0; i < count; i++) {
                    for (int place = 0; place < PLACES; place++) {
                        int part = partAt(descriptions[i], place);
                        sha.put(part < SELF ? 0 : part == SELF ? 1 : 2, 1);
                        putContent(graph.groups, part);
                    }
                }
                sha.end(next.hashes, blank * WORDS);
            }
            next.arrange(graph.blanks);
            return next.count > graph.groups.count;
        }

        private void takeRound(Graph graph) {
            Groups before = graph.groups;
            graph.groups = next;
            next = before;
        }

        private int describe(Graph graph, int blank) {
            int count = 0;
            for (int i = 0; i < graph.triples; i++) {
                int description = 0;
                boolean stands = false;
                for (int place = 0; place < PLACES; place++) {
                    int point = pointAt(graph.keys[i], place);
                    stands = stands || point == -1 - blank;
                    description = description << PLACE_BITS | partFor(graph.groups, point, blank);
                }
                if (stands) {
                    descriptions[count] = description;
                    count++;
                }
            }
            return count;
        }

        private static int partFor(Groups groups, int point, int blank) {
            if (point >= 0) {
                return point;
            }
            return point == -1 - blank ? SELF : OTHERS + groups.rank[-1 - point];
        }

        private void putContent(Groups groups, int part) {
            if (part < SELF) {
                sha.put(part, 4);
            }
            if (part >= OTHERS) {
                int blank = groups.order[groups.start[part - OTHERS]];
                for (int i = 0; i < WORDS; i++) {
                    sha.put(groups.hashes[blank * WORDS + i], 4);
                }
            }
        }
    }

    /** Finds the least row of all namings. */
    private static final class LeastRow {
        private final int[] numbers = new int[MOST_BLANKS];
        private final int[] bestNumbers = new int[MOST_BLANKS];
        private final int[] trial = new int[MOST_TRIPLES];
        private boolean found = false;

        void find(Graph graph, Graph form) {
            form.blanks = graph.blanks;
            form.triples = graph.triples;
            for (int at = 0; at < graph.blanks; at++) {
                form.groups.rank[at] = graph.groups.rank[graph.groups.order[at]];
            }
            found = false;
            search(graph, form, graph.blanks, 0);
        }

        /**
         * Gives the numbers up to the one told to the blanks that are not taken. The greatest goes
         * first: it makes the least points, and by these the row begins. Answers a greater number
         * when the search is to go on with that number's next blank, else 0.
         */
        private int search(Graph graph, Graph form, int number, int taken) {
            layTrial(graph, number, taken);
            int order = found ? compare(trial, form.keys, form.triples) : -1;
            if (number < 1 || number > MOST_BLANKS) {
                return settle(graph, form, order);
            }
            if (order > 0) {
                return 0;
            }
            Groups groups = graph.groups;
            int group = form.groups.rank[number - 1];
            for (int at = groups.start[group]; at < groups.start[group + 1]; at++) {
                int blank = groups.order[at];
                if ((taken >> blank & 1) == 0) {
                    numbers[blank] = number;
                    int back = search(graph, form, number - 1, taken | 1 << blank);
                    if (back > number) {
                        return back;
                    }
                }
            }
            return 0;
        }

        private int settle(Graph graph, Graph form, int order) {
            if (order < 0) {
                System.arraycopy(trial, 0, form.keys, 0, form.triples);
                System.arraycopy(numbers, 0, bestNumbers, 0, graph.blanks);
                found = true;
            }
            return order == 0 ? greatestDifference(graph.blanks) : 0;
        }

        /**
         * Two namings with the same row differ by a way in which the graph becomes itself, and this
         * way leaves the blanks with greater numbers than the one answered where they are. So all rows
         * behind the later choice for this number were seen behind the earlier one.
         */
        private int greatestDifference(int blanks) {
            int greatest = 0;
            for (int blank = 0; blank < blanks; blank++) {
                if (numbers[blank] != bestNumbers[blank]) {
                    greatest = Math.max(greatest, numbers[blank]);
                }
            }
            return greatest;
        }

        /** Lays a row that no row by these numbers is below, and that is their row when all are given. */
        private void layTrial(Graph graph, int number, int taken) {
            Groups groups = graph.groups;
            for (int blank = 0; blank < graph.blanks; blank++) {
                if ((taken >> blank & 1) == 0) {
                    numbers[blank] = Math.min(number, groups.start[groups.rank[blank] + 1]);
                }
            }
            for (int i = 0; i < graph.triples; i++) {
                trial[i] = renumbered(graph.keys[i], numbers);
            }
            sort(trial, graph.triples);
            // No triple is there twice, so that equal bounds can be pushed apart.
            for (int i = 1; i < graph.triples; i++) {
                trial[i] = Math.max(trial[i], trial[i - 1] + 1);
            }
        }

        private static int compare(int[] one, int[] other, int count) {
            for (int i = 0; i < count; i++) {
                if (one[i] != other[i]) {
                    return one[i] < other[i] ? -1 : 1;
                }
            }
            return 0;
        }
    }

    /** Looks for ways to give a graph's blanks those of a target with as many blanks and triples. */
    private static final class Matcher {
        final int[] images = new int[MOST_BLANKS];
        // The greatest blank of each triple, which is the last one to get its image; -1 without blanks.
        private final int[] lasts = new int[MOST_TRIPLES];

        boolean matches(Graph graph, Graph target) {
            readLasts(graph);
            return keepsTriples(graph, target, -1) && completes(graph, target, 0, 0);
        }

        /**
         * In how many ways a graph becomes itself: for each blank the number of those to which it can
         * go while all before it stay, multiplied.
         */
        int automorphisms(Graph graph) {
            readLasts(graph);
            int product = 1;
            int taken = 0;
            for (int blank = 0; blank < graph.blanks; blank++) {
                int count = 0;
                for (int image = blank; image < graph.blanks; image++) {
                    if (fits(graph, graph, blank, image) && completes(graph, graph, blank + 1, taken | 1 << image)) {
                        count++;
                    }
                }
                product *= count;
                images[blank] = blank + 1;
                taken |= 1 << blank;
            }
            return product;
        }

        private void readLasts(Graph graph) {
            for (int i = 0; i < graph.triples; i++) {
                lasts[i] = -1;
                for (int place = 0; place < PLACES; place++) {
                    lasts[i] = Math.max(lasts[i], -1 - pointAt(graph.keys[i], place));
                }
            }
        }

        /** Whether the blanks from the one told on can get images that are not taken. */
        private boolean completes(Graph graph, Graph target, int blank, int taken) {
            if (blank >= graph.blanks || blank >= MOST_BLANKS) {
                return true;
            }
            for (int image = 0; image < target.blanks; image++) {
                if ((taken >> image & 1) == 0 && fits(graph, target, blank, image)
                        && completes(graph, target, blank + 1, taken | 1 << image)) {
                    return true;
                }
            }
            return false;
        }

        private boolean fits(Graph graph, Graph target, int blank, int image) {
            // No way takes a blank to one with another hash.
            if (graph.groups.rank[blank] != target.groups.rank[image]) {
                return false;
            }
            images[blank] = image + 1;
            return keepsTriples(graph, target, blank);
        }

        /** As no two triples get the same image, it is enough that each gets one of the target's. */
        private boolean keepsTriples(Graph graph, Graph target, int last) {
            for (int i = 0; i < graph.triples; i++) {
                if (lasts[i] == last && !isIn(renumbered(graph.keys[i], images), target.keys, target.triples)) {
                    return false;
                }
            }
            return true;
        }
    }

    /** SHA-256 of bytes that come one after the other. */
    private static final class Sha {
        private static final int BLOCK = 64;
        private static final int[] START = {
            0x6a09e667, 0xbb67ae85, 0x3c6ef372, 0xa54ff53a, 0x510e527f, 0x9b05688c, 0x1f83d9ab, 0x5be0cd19
        };
        private static final int[] STEPS = {
            0x428a2f98, 0x71374491, 0xb5c0fbcf, 0xe9b5dba5, 0x3956c25b, 0x59f111f1, 0x923f82a4, 0xab1c5ed5,
            0xd807aa98, 0x12835b01, 0x243185be, 0x550c7dc3, 0x72be5d74, 0x80deb1fe, 0x9bdc06a7, 0xc19bf174,
            0xe49b69c1, 0xefbe4786, 0x0fc19dc6, 0x240ca1cc, 0x2de92c6f, 0x4a7484aa, 0x5cb0a9dc, 0x76f988da,
            0x983e5152, 0xa831c66d, 0xb00327c8, 0xbf597fc7, 0xc6e00bf3, 0xd5a79147, 0x06ca6351, 0x14292967,
            0x27b70a85, 0x2e1b2138, 0x4d2c6dfc, 0x53380d13, 0x650a7354, 0x766a0abb, 0x81c2c92e, 0x92722c85,
            0xa2bfe8a1, 0xa81a664b, 0xc24b8b70, 0xc76c51a3, 0xd192e819, 0xd6990624, 0xf40e3585, 0x106aa070,
            0x19a4c116, 0x1e376c08, 0x2748774c, 0x34b0bcb5, 0x391c0cb3, 0x4ed8aa4a, 0x5b9cca4f, 0x682e6ff3,
            0x748f82ee, 0x78a5636f, 0x84c87814, 0x8cc70208, 0x90befffa, 0xa4506ceb, 0xbef9a3f7, 0xc67178f2
        };

        private final int[] state = new int[WORDS];
        private final int[] words = new int[BLOCK];
        private int filled = 0;
        private int length = 0;

        void begin() {
            System.arraycopy(START, 0, state, 0, WORDS);
            filled = 0;
            length = 0;
        }

        /** Takes the lowest bytes of a number, the highest of them first. */
        void put(int number, int bytes) {
            for (int i = bytes - 1; i >= 0; i--) {
                int at = filled >> 2;
                // Four bytes push out whatever an earlier block left in the word.
                words[at] = words[at] << 8 | number >>> 8 * i & 255;
                filled++;
                if (filled == BLOCK) {
                    mix();
                    filled = 0;
                }
            }
            length += bytes;
        }

        void end(int[] into, int at) {
            int bits = 8 * length;
            put(128, 1);
            for (int i = 0; i < BLOCK && filled != BLOCK - 8; i++) {
                put(0, 1);
            }
            // No message here has 2^32 bits.
            put(0, 4);
            put(bits, 4);
            System.arraycopy(state, 0, into, at, WORDS);
        }

        private void mix() {
            for (int i = 16; i < BLOCK; i++) {
                int x = words[i - 15];
                int y = words[i - 2];
                int low = (x >>> 7 | x << 25) ^ (x >>> 18 | x << 14) ^ x >>> 3;
                int high = (y >>> 17 | y << 15) ^ (y >>> 19 | y << 13) ^ y >>> 10;
                words[i] = words[i - 16] + low + words[i - 7] + high;
            }
            int a = state[0];
            int b = state[1];
            int c = state[2];
            int d = state[3];
            int e = state[4];
            int f = state[5];
            int g = state[6];
            int h = state[7];
            for (int i = 0; i < BLOCK; i++) {
                int turned = (e >>> 6 | e << 26) ^ (e >>> 11 | e << 21) ^ (e >>> 25 | e << 7);
                int one = h + turned + (e & f ^ ~e & g) + STEPS[i] + words[i];
                turned = (a >>> 2 | a << 30) ^ (a >>> 13 | a << 19) ^ (a >>> 22 | a << 10);
                int two = turned + (a & b ^ a & c ^ b & c);
                h = g;
                g = f;
                f = e;
                e = d + one;
                d = c;
                c = b;
                b = a;
                a = one + two;
            }
            state[0] += a;
            state[1] += b;
            state[2] += c;
            state[3] += d;
            state[4] += e;
            state[5] += f;
            state[6] += g;
            state[7] += h;
        }
    }
}
