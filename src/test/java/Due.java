/** Counts what a test found, and tells what is not as it is due. */
final class Due {
    private static int passed;
    private static int failed;

    private Due() {
    }

    interface Call {
        void make();
    }

    static void same(String what, long due, long got) {
        count(due == got, what + " answered " + got + ", due is " + due);
    }

    static void same(String what, double due, double got) {
        count(due == got, what + " answered " + got + ", due is " + due);
    }

    static void same(String what, boolean due, boolean got) {
        count(due == got, what + " answered " + got + ", due is " + due);
    }

    /** Like same(), for a test that tells its failures itself. */
    static void quiet(String what, long due, long got) {
        count(due == got, null);
    }

    static void throwsIt(String what, Class<? extends RuntimeException> due, Call call) {
        String got = "nothing";
        try {
            call.make();
        } catch (RuntimeException e) {
            got = e.getClass().getSimpleName();
        }
        count(got.equals(due.getSimpleName()), what + " threw " + got + ", due is " + due.getSimpleName());
    }

    private static void count(boolean fits, String wrong) {
        if (fits) {
            passed++;
            return;
        }
        failed++;
        if (wrong != null) {
            System.out.println(wrong);
        }
    }

    static void end() {
        System.out.println("checks that held: " + passed + ", that did not: " + failed);
        System.exit(failed == 0 && passed > 0 ? 0 : 1);
    }
}
