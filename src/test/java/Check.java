/** Counts the answers of a test that are as due, and prints those that are not. */
final class Check {
    private static int passed = 0;
    private static int failed = 0;

    private Check() {
    }

    static void due(String call, long got, long want) {
        tell(call, got == want, String.valueOf(got), String.valueOf(want));
    }

    /** Of texts of many lines the first one that differs is printed. */
    static void due(String call, String got, String want) {
        String[] gotLines = got.split("\n");
        String[] wantLines = want.split("\n");
        int line = 0;
        while (line < gotLines.length - 1 && line < wantLines.length - 1
                && gotLines[line].equals(wantLines[line])) {
            line++;
        }
        tell(call, got.equals(want), gotLines[line], wantLines[line]);
    }

    /** All bits must be the same; one NaN is as good as another. */
    static void dueFloat(String call, float got, float want) {
        tell(call, Float.floatToIntBits(got) == Float.floatToIntBits(want),
                String.valueOf(got), String.valueOf(want));
    }

    private static void tell(String call, boolean isAsDue, String got, String want) {
        if (isAsDue) {
            passed++;
        } else {
            failed++;
            System.out.println(call + " answered " + got + ", due is " + want);
        }
    }

    static void end() {
        System.out.println(passed + " passed, " + failed + " failed");
        if (failed > 0) {
            System.exit(1);
        }
    }
}
