/** Counts the answers that are as due, and prints those that are not. */
final class Check {
    static int passed;
    static int failed;

    private Check() {
    }

    static void due(String what, long got, long want) {
        if (got == want) {
            passed++;
        } else {
            failed++;
            System.out.println(what + " answered " + got + ", due is " + want);
        }
    }

    static void holds(String what, boolean fact) {
        due(what, fact ? 1 : 0, 1);
    }
}
