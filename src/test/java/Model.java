import java.io.ByteArrayOutputStream;
import java.nio.ByteBuffer;
import java.security.MessageDigest;
import java.security.NoSuchAlgorithmException;
import java.util.ArrayList;
import java.util.Arrays;
import java.util.List;
import java.util.TreeMap;
import java.util.TreeSet;

/**
 * The document said once more, word by word and without any short cut: digests by the Java library,
 * descriptions as rows of bytes, every naming and every way tried.
 */
final class Model {
    private static final class Graph {
        int blanks = 0;
        final List<int[]> triples = new ArrayList<>();

        int find(int s, int p, int o) {
            for (int i = 0; i < triples.size(); i++) {
                if (Arrays.equals(triples.get(i), new int[] {s, p, o})) {
                    return i;
                }
            }
            return -1;
        }
    }

    private Graph graph = new Graph();
    private final List<Graph> kept = new ArrayList<>();
    private int[] naming = new int[0];
    private int[][] form = new int[0][];
    private byte[][] hashes = null;
    private int rounds = 0;

    int blank() {
        hashes = null;
        return graph.blanks == 8 ? -2 : ++graph.blanks;
    }

    private boolean point(int x) {
        return x >= 1 && x <= 1000 || x < 0 && x >= -graph.blanks;
    }

    int triple(int s, int p, int o) {
        if (!point(s) || !point(p) || !point(o)) {
            return -1;
        }
        if (graph.find(s, p, o) >= 0) {
            return 0;
        }
        if (graph.triples.size() == 40) {
            return -2;
        }
        hashes = null;
        graph.triples.add(new int[] {s, p, o});
        return 1;
    }

    int drop(int s, int p, int o) {
        int at = graph.find(s, p, o);
        if (at < 0) {
            return 0;
        }
        hashes = null;
        graph.triples.remove(at);
        return 1;
    }

    private static byte[] sha(byte[] message) {
        try {
            return MessageDigest.getInstance("SHA-256").digest(message);
        } catch (NoSuchAlgorithmException e) {
            throw new IllegalStateException(e);
        }
    }

    private static byte[] describe(int[] triple, int self, byte[][] hashes) {
        ByteArrayOutputStream out = new ByteArrayOutputStream();
        for (int x : triple) {
            if (x > 0) {
                out.write(0);
                out.writeBytes(ByteBuffer.allocate(4).putInt(x).array());
            } else if (x == -1 - self) {
                out.write(1);
            } else {
                out.write(2);
                out.writeBytes(hashes[-1 - x]);
            }
        }
        return out.toByteArray();
    }

    private byte[][] round(byte[][] hashes) {
        byte[][] next = new byte[hashes.length][];
        for (int b = 0; b < hashes.length; b++) {
            List<byte[]> rows = new ArrayList<>();
            for (int[] t : graph.triples) {
                if (t[0] == -1 - b || t[1] == -1 - b || t[2] == -1 - b) {
                    rows.add(describe(t, b, hashes));
                }
            }
            rows.sort(Arrays::compareUnsigned);
            ByteArrayOutputStream out = new ByteArrayOutputStream();
            out.writeBytes(hashes[b]);
            for (byte[] row : rows) {
                out.writeBytes(row);
            }
            next[b] = sha(out.toByteArray());
        }
        return next;
    }

    private static int different(byte[][] hashes) {
        TreeSet<byte[]> set = new TreeSet<>(Arrays::compareUnsigned);
        set.addAll(Arrays.asList(hashes));
        return set.size();
    }

    private void work() {
        if (hashes != null) {
            return;
        }
        hashes = new byte[graph.blanks][];
        Arrays.fill(hashes, sha(new byte[0]));
        rounds = 0;
        boolean more = true;
        while (more) {
            byte[][] next = round(hashes);
            rounds++;
            more = different(next) > different(hashes);
            if (more || graph.blanks < 2) {
                hashes = next;
            }
        }
    }

    private List<List<Integer>> groups() {
        work();
        TreeMap<byte[], List<Integer>> map = new TreeMap<>(Arrays::compareUnsigned);
        for (int b = 0; b < graph.blanks; b++) {
            map.computeIfAbsent(hashes[b], h -> new ArrayList<>()).add(b);
        }
        return new ArrayList<>(map.values());
    }

    int hash(int blank, int i) {
        work();
        if (blank < 1 || blank > graph.blanks || i < 0 || i > 7) {
            return 0;
        }
        return ByteBuffer.wrap(hashes[blank - 1]).getInt(4 * i);
    }

    int rounds() {
        work();
        return rounds;
    }

    int first(int group, int i) {
        List<List<Integer>> groups = groups();
        if (group < 0 || group >= groups.size() || i < 0 || i >= groups.get(group).size()) {
            return -1;
        }
        return groups.get(group).get(i) + 1;
    }

    private static int compare(int[][] one, int[][] other) {
        for (int i = 0; i < one.length; i++) {
            int c = Arrays.compare(one[i], other[i]);
            if (c != 0) {
                return c;
            }
        }
        return 0;
    }

    private int[][] row(int[] numbers) {
        int[][] row = new int[graph.triples.size()][3];
        for (int i = 0; i < row.length; i++) {
            for (int k = 0; k < 3; k++) {
                int x = graph.triples.get(i)[k];
                row[i][k] = x < 0 ? -numbers[-1 - x] : x;
            }
        }
        Arrays.sort(row, Arrays::compare);
        return row;
    }

    /** All rows of numbers that give each blank of a group one of the group's numbers. */
    private static void permute(int at, int[] group, int[] numbers, boolean[] used, List<int[]> all) {
        if (at == numbers.length) {
            all.add(numbers.clone());
            return;
        }
        for (int n = 1; n <= numbers.length; n++) {
            if (!used[n - 1] && group[numbers.length + n - 1] == group[at]) {
                used[n - 1] = true;
                numbers[at] = n;
                permute(at + 1, group, numbers, used, all);
                used[n - 1] = false;
            }
        }
    }

    /** The group of each blank, and behind them that of each number. */
    private int[] groupRow() {
        int n = graph.blanks;
        int[] result = new int[2 * n];
        int number = 0;
        List<List<Integer>> groups = groups();
        for (int g = 0; g < groups.size(); g++) {
            for (int b : groups.get(g)) {
                result[b] = g;
                result[n + number++] = g;
            }
        }
        return result;
    }

    int name(long steps) {
        List<int[]> all = new ArrayList<>();
        permute(0, groupRow(), new int[graph.blanks], new boolean[graph.blanks], all);
        if (all.size() > steps) {
            return -1;
        }
        int[][] least = null;
        int[] numbers = null;
        int count = 0;
        for (int[] each : all) {
            int[][] row = row(each);
            int c = least == null ? -1 : compare(row, least);
            if (c < 0) {
                least = row;
                count = 0;
                numbers = each;
            }
            if (c <= 0) {
                count++;
                numbers = Arrays.compare(each, numbers) < 0 ? each : numbers;
            }
        }
        form = least;
        naming = numbers;
        return count;
    }

    int named(int blank) {
        return blank < 1 || blank > naming.length ? -1 : naming[blank - 1];
    }

    int form(int i, int k) {
        return i < 0 || i >= form.length || k < 0 || k > 2 ? 0 : form[i][k];
    }

    byte octet(int i) {
        ByteBuffer out = ByteBuffer.allocate(form.length * 12);
        for (int[] t : form) {
            for (int x : t) {
                out.putInt(x);
            }
        }
        return sha(out.array())[i];
    }

    int keep() {
        if (kept.size() == 8) {
            return -2;
        }
        kept.add(graph);
        graph = new Graph();
        hashes = null;
        return kept.size() - 1;
    }

    int ways(int other) {
        if (other < 0 || other >= kept.size()) {
            return -1;
        }
        Graph to = kept.get(other);
        if (to.blanks != graph.blanks || to.triples.size() != graph.triples.size()) {
            return 0;
        }
        int[][] target = to.triples.toArray(new int[0][]);
        Arrays.sort(target, Arrays::compare);
        List<int[]> all = new ArrayList<>();
        permute(0, new int[2 * graph.blanks], new int[graph.blanks], new boolean[graph.blanks], all);
        int count = 0;
        for (int[] each : all) {
            count += compare(row(each), target) == 0 ? 1 : 0;
        }
        return count;
    }

    int isomorphic(int other) {
        return Math.min(ways(other), 1);
    }

    int equal(int other) {
        if (other < 0 || other >= kept.size()) {
            return -1;
        }
        Graph to = kept.get(other);
        boolean same = to.blanks == graph.blanks && to.triples.size() == graph.triples.size();
        for (int[] t : graph.triples) {
            same = same && to.find(t[0], t[1], t[2]) >= 0;
        }
        return same ? 1 : 0;
    }

    int triples() {
        return graph.triples.size();
    }

    int blanks() {
        return graph.blanks;
    }
}
