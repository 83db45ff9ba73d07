/** Compares answers with those that are due, prints each that differs, and ends the test. */
final class Check {
    /** A call that is expected to throw. */
    interface Call {
        void run();
    }

    private int asked;
    private int wrong;

    void equal(String what, long got, long due) {
        asked++;
        if (got != due) {
            report(what + " answered " + got + ", due is " + due);
        }
    }

    void equal(String what, double got, double due) {
        asked++;
        // Compared bit by bit, so that 0.0 and -0.0 differ and NaN is like itself alone.
        if (Double.doubleToLongBits(got) != Double.doubleToLongBits(due)) {
            report(what + " answered " + got + ", due is " + due);
        }
    }

    void equal(String what, String got, String due) {
        asked++;
        if (!got.equals(due)) {
            report(what + " answered " + got + ", due is " + due);
        }
    }

    void yes(String what, boolean got) {
        equal(what, got ? 1 : 0, 1);
    }

    void no(String what, boolean got) {
        equal(what, got ? 1 : 0, 0);
    }

    /** The very class is compared: an exception of the machine is often below the one that is due. */
    void refuses(String what, CountedDesk desk, Class<? extends RuntimeException> due, Call call) {
        asked++;
        String before = desk.picture();
        try {
            call.run();
            report(what + " threw nothing, due is " + due.getSimpleName());
        } catch (RuntimeException thrown) {
            if (thrown.getClass() != due) {
                report(what + " threw " + thrown + ", due is " + due.getSimpleName());
            }
        }
        unchanged(what, before, desk.picture());
    }

    /** Compares two pictures of a desk. */
    void unchanged(String what, String before, String behind) {
        equal("what is asked behind " + what, difference(before, behind), "no change");
    }

    private static String difference(String before, String behind) {
        String[] befores = before.split("\n");
        String[] behinds = behind.split("\n");
        for (int i = 0; i < Math.min(befores.length, behinds.length); i++) {
            if (!befores[i].equals(behinds[i])) {
                return befores[i] + " before, " + behinds[i] + " behind";
            }
        }
        return before.equals(behind) ? "no change" : "more or fewer answers";
    }

    void end() {
        System.out.println(asked + " checks, " + wrong + " wrong");
        if (wrong != 0) {
            System.exit(1);
        }
    }

    private void report(String text) {
        wrong++;
        System.out.println(text);
    }
}
