import java.util.Random;

/** Runs of calls, drawn from fixed seeds, on an object and on the model: each answer must be alike. */
public final class ModelTest {
    private static CanonNames x;
    private static Model m;
    private static String run;

    public static void main(String[] args) {
        for (int seed = 1; seed <= 400; seed++) {
            drawnRun(seed);
        }
        for (int seed = 1; seed <= 60; seed++) {
            evenRun(seed);
        }
        for (int seed = 1; seed <= 60; seed++) {
            turnedRun(seed);
        }
        longRun();
        Check.end("ModelTest");
    }

    private static void begin(String name) {
        x = new CanonNames();
        m = new Model();
        run = name;
    }

    private static void due(String call, long got, long want) {
        Check.due(run + ": " + call, got, want);
    }

    private static void blank() {
        due("blank()", x.blank(), m.blank());
    }

    private static void triple(int s, int p, int o) {
        due("triple(" + s + ", " + p + ", " + o + ")", x.triple(s, p, o), m.triple(s, p, o));
    }

    private static void drop(int s, int p, int o) {
        due("drop(" + s + ", " + p + ", " + o + ")", x.drop(s, p, o), m.drop(s, p, o));
    }

    private static void name(long steps) {
        due("name(" + steps + ")", x.name(steps), m.name(steps));
    }

    private static void keep() {
        due("keep()", x.keep(), m.keep());
    }

    private static void lookAtGraph() {
        due("blanks()", x.blanks(), m.blanks());
        due("triples()", x.triples(), m.triples());
        due("rounds()", x.rounds(), m.rounds());
        for (int b = -1; b <= 9; b++) {
            for (int i = -1; i <= 8; i++) {
                due("hash(" + b + ", " + i + ")", x.hash(b, i), m.hash(b, i));
                due("first(" + b + ", " + i + ")", x.first(b, i), m.first(b, i));
            }
        }
    }

    private static void lookAtNamed() {
        for (int b = -1; b <= 9; b++) {
            due("named(" + b + ")", x.named(b), m.named(b));
        }
        for (int i = -1; i <= 41; i++) {
            for (int k = -1; k <= 3; k++) {
                due("form(" + i + ", " + k + ")", x.form(i, k), m.form(i, k));
            }
        }
        for (int i = 0; i < 32; i++) {
            due("octet(" + i + ")", x.octet(i), m.octet(i));
        }
        Check.octetThrows(run, x, -1);
        Check.octetThrows(run, x, 32);
    }

    private static void compare(int other) {
        due("equal(" + other + ")", x.equal(other), m.equal(other));
        due("isomorphic(" + other + ")", x.isomorphic(other), m.isomorphic(other));
        due("ways(" + other + ")", x.ways(other), m.ways(other));
    }

    private static int point(Random random, int blanks, int names, int share) {
        boolean isBlank = random.nextInt(100) < share;
        return isBlank ? -1 - random.nextInt(blanks + 1) : random.nextInt(names + 1);
    }

    private static void drawnRun(int seed) {
        Random random = new Random(seed);
        begin("drawn run " + seed);
        int most = seed % 8 == 0 ? 8 : 1 + random.nextInt(6);
        int names = 1 + random.nextInt(3);
        int share = 40 + random.nextInt(60);
        for (int call = 0; call < 90; call++) {
            int kind = random.nextInt(100);
            int s = point(random, m.blanks(), names, share);
            int p = point(random, m.blanks(), names, share / 4);
            int o = point(random, m.blanks(), names, share);
            if (kind < 16 && m.blanks() < most) {
                blank();
            } else if (kind < 60) {
                triple(s, p, o);
            } else if (kind < 75) {
                drop(s, p, o);
            } else if (kind < 83) {
                name(random.nextInt(10) == 0 ? random.nextInt(30) - 2 : 50000);
                lookAtNamed();
            } else if (kind < 91) {
                lookAtGraph();
            } else if (kind < 94) {
                keep();
            } else if (m.blanks() < 7) {
                compare(random.nextInt(10) - 1);
            }
        }
    }

    /** Graphs whose blanks all look alike from nearby, told twice with the blanks mixed. */
    private static void evenRun(int seed) {
        Random random = new Random(seed);
        begin("even run " + seed);
        int n = 4 + seed % 5;
        int[][] steps = {{1}, {1, n - 1}, {2}, {1, 3}, {n / 2}, {1, 2}, {2, n - 2, n / 2}};
        int[] chosen = steps[random.nextInt(steps.length)];
        int flaw = random.nextInt(4);
        for (int copy = 0; copy < 3; copy++) {
            int[] mixed = mix(random, n);
            for (int b = 0; b < n; b++) {
                blank();
            }
            for (int b = 0; b < n; b++) {
                for (int step : chosen) {
                    triple(mixed[b], 1, mixed[(b + step) % n]);
                }
            }
            if (flaw == 0 && copy > 0) {
                triple(mixed[0], mixed[1], mixed[2]);
            }
            if (flaw == 1) {
                triple(mixed[0], copy == 2 ? 2 : 3, 4);
            }
            lookAtGraph();
            name(50000);
            lookAtNamed();
            for (int other = 0; other < copy; other++) {
                compare(other);
            }
            keep();
        }
    }

    /** Triples of blanks alone or of a blank and names, one for every blank by the same rule. */
    private static void turnedRun(int seed) {
        Random random = new Random(seed);
        begin("turned run " + seed);
        int n = 2 + seed % 7;
        int rules = 1 + random.nextInt(5);
        int[] drawn = new int[3 * rules];
        for (int i = 0; i < drawn.length; i++) {
            drawn[i] = random.nextInt(n + 2);
        }
        for (int copy = 0; copy < 2; copy++) {
            int[] mixed = mix(random, n);
            for (int b = 0; b < n; b++) {
                blank();
            }
            for (int i = 0; i < drawn.length; i += 3) {
                for (int b = 0; b < n; b++) {
                    triple(turned(mixed, b, drawn[i]), turned(mixed, b, drawn[i + 1]), turned(mixed, b, drawn[i + 2]));
                }
            }
            lookAtGraph();
            name(50000);
            lookAtNamed();
            compare(copy - 1);
            keep();
        }
    }

    /** A graph of eight blanks for which six rounds are made. */
    private static void longRun() {
        begin("long run");
        int[] points = {6, 6, 8, 2, 4, 7, 3, 1, 5, 7, 3, 6, 1, 5, 5, 3, 1, 2};
        for (int b = 0; b < 8; b++) {
            blank();
        }
        for (int i = 0; i < points.length; i += 2) {
            triple(-points[i], 1, -points[i + 1]);
            lookAtGraph();
        }
        due("rounds()", x.rounds(), 6);
        name(1);
        lookAtNamed();
    }

    private static int turned(int[] mixed, int b, int step) {
        return step < mixed.length ? mixed[(b + step) % mixed.length] : step;
    }

    private static int[] mix(Random random, int n) {
        int[] result = new int[n];
        for (int i = 0; i < n; i++) {
            int at = random.nextInt(i + 1);
            result[i] = result[at];
            result[at] = -1 - i;
        }
        return result;
    }
}
