/** Counts and tells answers that are not the due ones. */
final class Check {
    static int passed = 0;
    static int failed = 0;

    private Check() { }

    static void due(String call, long got, long want) {
        if (got == want) {
            passed++;
            return;
        }
        failed++;
        System.out.println(call + " answered " + got + ", due is " + want);
    }

    static void holds(String what, boolean is) {
        due(what, is ? 1 : 0, 1);
    }
}
