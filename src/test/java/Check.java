/** Counts and prints the answers that are not as due. */
final class Check {
    private static int wrong = 0;
    private static int all = 0;

    private Check() {
    }

    static void due(String what, long got, long want) {
        all++;
        if (got != want) {
            wrong++;
            System.out.println(what + " answered " + got + ", due is " + want);
        }
    }

    /** For octets: anything but the very exception of the document, or its absence, is wrong. */
    static void octetThrows(String what, CanonNames names, int i) {
        all++;
        try {
            byte got = names.octet(i);
            wrong++;
            System.out.println(what + ": octet(" + i + ") answered " + got + ", due is an exception");
        } catch (RuntimeException e) {
            if (e.getClass() != ArrayIndexOutOfBoundsException.class) {
                wrong++;
                System.out.println(what + ": octet(" + i + ") threw " + e);
            }
        }
    }

    static void end(String test) {
        System.out.println(test + ": " + all + " answers, " + wrong + " not as due");
        if (wrong != 0) {
            System.exit(1);
        }
    }
}
