import java.util.function.Supplier;

/** Compares answers with those that are due, and counts the wrong ones. */
final class Checks {
    static final String INDEX = "throws.IndexOutOfBoundsException";
    static final String ARGUMENT = "throws.IllegalArgumentException";
    static final String STATE = "throws.IllegalStateException";

    /** A call of the class's face. */
    interface Call {
        int on(OddRulers x);
    }

    private int made;
    private int wrong;

    int made() {
        return made;
    }

    int wrong() {
        return wrong;
    }

    void due(String call, Object got, Object want) {
        made++;
        if (!want.equals(got)) {
            wrong++;
            System.out.println("    " + call + ": answered " + got + ", due is " + want);
        }
    }

    /** The call throws this exception, and behind it everything is as it is without the call. */
    void refused(Supplier<OddRulers> make, String name, String exception, Call call) {
        due(name, answer(make.get(), call), exception);
        unchanged(make, name, call);
    }

    /** Behind the call, whatever it answers, everything is as it is without it. */
    void unchanged(Supplier<OddRulers> make, String name, Call call) {
        String behind = Picture.whole(() -> {
            OddRulers x = make.get();
            answer(x, call);
            return x;
        });
        due(name + " changes nothing", behind, Picture.whole(make));
    }

    static String answer(OddRulers x, Call call) {
        return answer(() -> call.on(x));
    }

    static String answer(Supplier<Integer> call) {
        try {
            return String.valueOf(call.get());
        } catch (RuntimeException e) {
            return "throws." + e.getClass().getSimpleName();
        }
    }
}
