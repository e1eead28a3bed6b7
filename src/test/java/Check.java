/** Counts the answers that are due and those that are not, and tells the latter. */
final class Check {
    static final Class<?> INDEX = IndexOutOfBoundsException.class;
    static final Class<?> ARGUMENT = IllegalArgumentException.class;
    static final Class<?> STATE = IllegalStateException.class;

    private final String name;
    private int passed;
    private int failed;

    Check(String name) {
        this.name = name;
    }

    void due(String what, long got, long want) {
        count(got == want, what, String.valueOf(got), String.valueOf(want));
    }

    void due(String what, double got, double want) {
        count(got == want, what, String.valueOf(got), String.valueOf(want));
    }

    void due(String what, boolean got, boolean want) {
        count(got == want, what, String.valueOf(got), String.valueOf(want));
    }

    void due(String what, String got, String want) {
        count(got.equals(want), what, got, want);
    }

    /** The call throws exactly this by itself, and the object shows the same before and after it. */
    void refused(String what, JetWaltz waltz, Class<?> want, Runnable call) {
        long before = waltz.digest();
        String got = "nothing";
        try {
            call.run();
        } catch (RuntimeException e) {
            got = nameOf(e);
        }
        count(got.equals(want.getName()), what + " throws", got, want.getName());
        due(what + " changes nothing", waltz.digest(), before);
    }

    /** Also tells a throw that is not of a throw statement, but of the machine or of its library. */
    static String nameOf(RuntimeException e) {
        StackTraceElement[] trace = e.getStackTrace();
        boolean isLibrary = trace.length > 0 && trace[0].getClassName().startsWith("j");
        return e.getClass().getName() + (isLibrary ? " in " + trace[0] : "");
    }

    void end() {
        System.out.println(name + ": " + passed + " passed, " + failed + " failed");
        if (failed > 0 || passed == 0) {
            System.exit(1);
        }
    }

    private void count(boolean isDue, String what, String got, String want) {
        if (isDue) {
            passed++;
        } else {
            failed++;
            System.out.println(name + ": " + what + " answered " + got + ", due is " + want);
        }
    }
}
