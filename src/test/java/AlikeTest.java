import java.util.Random;

/**
 * Graphs whose blanks all have the same hash though they are not all alike: here the search among
 * what the digests leave open has the most to do. Each answer is compared with the model's.
 *
 * <p>By each name every blank goes to one other blank, and one other blank goes to it: so a blank's
 * descriptions are those of any other one, whatever rings the names make.
 */
public final class AlikeTest {
    private static CanonNames x;
    private static Model m;
    private static String run;

    public static void main(String[] args) {
        for (int seed = 1; seed <= 180; seed++) {
            alikeRun(seed, 2 + seed % 6);
        }
        for (int seed = 1; seed <= 8; seed++) {
            alikeRun(seed, 8);
        }
        Check.end("AlikeTest");
    }

    private static void due(String call, long got, long want) {
        Check.due(run + ": " + call, got, want);
    }

    /** A graph, the same one with its blanks mixed, and one that differs by a single name's rings. */
    private static void alikeRun(int seed, int blanks) {
        Random random = new Random(seed);
        x = new CanonNames();
        m = new Model();
        run = blanks + " blanks, run " + seed;
        int names = 1 + random.nextInt(Math.min(3, 40 / blanks));
        int[][] goes = new int[names][];
        for (int name = 0; name < names; name++) {
            goes[name] = rings(random, blanks);
        }
        boolean bothWays = names * blanks <= 20 && random.nextInt(3) == 0;
        for (int copy = 0; copy < 3; copy++) {
            if (copy == 2) {
                goes[names - 1] = rings(random, blanks);
            }
            make(goes, mixed(random, blanks), bothWays);
            look(blanks, copy);
            due("keep()", x.keep(), m.keep());
        }
    }

    private static void make(int[][] goes, int[] mixed, boolean bothWays) {
        for (int b = 0; b < mixed.length; b++) {
            due("blank()", x.blank(), m.blank());
        }
        for (int name = 0; name < goes.length; name++) {
            for (int b = 0; b < mixed.length; b++) {
                int s = -1 - mixed[b];
                int o = -1 - mixed[goes[name][b]];
                due("triple()", x.triple(s, name + 1, o), m.triple(s, name + 1, o));
                if (bothWays) {
                    due("triple()", x.triple(o, name + 1, s), m.triple(o, name + 1, s));
                }
            }
        }
    }

    private static void look(int blanks, int copy) {
        due("rounds()", x.rounds(), m.rounds());
        due("name()", x.name(40320), m.name(40320));
        for (int b = 1; b <= blanks; b++) {
            due("named(" + b + ")", x.named(b), m.named(b));
        }
        for (int i = 0; i < m.triples() * 3; i++) {
            due("form(" + i / 3 + ", " + i % 3 + ")", x.form(i / 3, i % 3), m.form(i / 3, i % 3));
        }
        for (int other = 0; other < copy; other++) {
            due("ways(" + other + ")", x.ways(other), m.ways(other));
            due("isomorphic(" + other + ")", x.isomorphic(other), m.isomorphic(other));
        }
    }

    /** Where each blank goes: never to itself. */
    private static int[] rings(Random random, int blanks) {
        for (int time = 0; time < 1000; time++) {
            int[] goes = mixed(random, blanks);
            boolean away = true;
            for (int b = 0; b < blanks; b++) {
                away = away && goes[b] != b;
            }
            if (away) {
                return goes;
            }
        }
        throw new IllegalStateException("no rings of " + blanks);
    }

    private static int[] mixed(Random random, int n) {
        int[] result = new int[n];
        for (int i = 0; i < n; i++) {
            int at = random.nextInt(i + 1);
            result[i] = result[at];
            result[at] = i;
        }
        return result;
    }
}
