import java.util.concurrent.Callable;

/** Compares answers with those that are due, and counts the wrong ones. */
final class Checks {
    static final String INDEX = "IndexOutOfBoundsException";
    static final String ARGUMENT = "IllegalArgumentException";
    static final String STATE = "IllegalStateException";

    private int made;
    private int wrong;

    int made() {
        return made;
    }

    int wrong() {
        return wrong;
    }

    void due(String call, Object got, Object want) {
        made++;
        if (!want.equals(got)) {
            wrong++;
            System.out.println("    " + call + ": answered " + got + ", due is " + want);
        }
    }

    void throwing(String call, String exception, Callable<Integer> action) {
        due(call, answer(action), "throws." + exception);
    }

    /** A refused call has to leave everything as it was. */
    void refused(OddRulers x, String call, String exception, Callable<Integer> action) {
        String before = Picture.of(x);
        throwing(call, exception, action);
        due(call + " changes nothing", Picture.of(x), before);
    }

    static String answer(Callable<Integer> action) {
        try {
            return String.valueOf(action.call());
        } catch (Exception e) {
            return "throws." + e.getClass().getSimpleName();
        }
    }
}
