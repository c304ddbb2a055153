/** Counts and prints the answers that are not as due. */
final class Check {
    private static int wrong;
    private static int looked;

    private Check() {
    }

    static void due(String what, long got, long want) {
        looked++;
        if (got != want) {
            wrong++;
            System.out.println(what + " answered " + got + ", due is " + want);
        }
    }

    static void due(String what, boolean got, boolean want) {
        due(what, got ? 1 : 0, want ? 1 : 0);
    }

    static void due(String what, String got, String want) {
        looked++;
        if (!want.equals(got)) {
            wrong++;
            System.out.println(what + " answered " + got + ", due is " + want);
        }
    }

    static void due(String what, byte[] got, byte[] want) {
        due(what, java.util.HexFormat.of().formatHex(got), java.util.HexFormat.of().formatHex(want));
    }

    /** To be called last: ends the program with exit code 1 if an answer was wrong. */
    static void finish() {
        System.out.println(looked + " answers, " + wrong + " not as due");
        if (wrong > 0 || looked == 0) {
            System.exit(1);
        }
    }
}
