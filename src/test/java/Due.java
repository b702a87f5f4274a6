/** Counts the answers that are not as due; each test ends with end(). */
final class Due {
    private static int wrong = 0;
    private static int asked = 0;

    private Due() {
    }

    static void due(String call, long got, long want) {
        asked++;
        if (got != want) {
            wrong++;
            System.out.println(call + " answered " + got + ", due is " + want);
        }
    }

    static void due(String call, boolean got, boolean want) {
        due(call, got ? 1L : 0L, want ? 1L : 0L);
    }

    /** An answer of a call together with its STATUS. */
    static void due(String call, DiscCutter x, long got, long want, int status) {
        due(call, got, want);
        due(call + ", its STATUS", x.status(), status);
    }

    static void due(String call, DiscCutter x, boolean got, int status) {
        due(call, got, status == 0);
        due(call + ", its STATUS", x.status(), status);
    }

    static int wrong() {
        return wrong;
    }

    static void end() {
        System.out.println(asked + " answers asked, " + wrong + " not as due");
        if (wrong != 0 || asked == 0) {
            System.exit(1);
        }
    }
}
