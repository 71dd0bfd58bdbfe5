import java.lang.reflect.InvocationTargetException;
import java.lang.reflect.Method;
import java.lang.reflect.Modifier;
import java.util.Arrays;
import java.util.Comparator;
import java.util.Set;
import java.util.TreeSet;

/** Runs every static method of the test classes that takes Checks. */
public final class AllTests {
    static final Class<?>[] TESTS = {
        FaceTest.class, LanguageTest.class, DocumentTest.class, ReadmeTest.class, TextTest.class, LookTest.class,
        ActionTest.class, LayingTest.class, MarkTest.class, ScriptTest.class, SimulateTest.class, SlotTest.class,
        RoomTest.class, RandomTest.class,
    };

    private static int passed;
    private static int failed;

    public static void main(String[] args) throws IllegalAccessException {
        Set<String> promises = new TreeSet<>();
        for (Class<?> tests : TESTS) {
            Method[] methods = tests.getDeclaredMethods();
            Arrays.sort(methods, Comparator.comparing(Method::getName));
            for (Method method : methods) {
                if (isTest(method)) {
                    runTest(method);
                    promises.add(method.getName().split("_")[0]);
                }
            }
        }
        for (int promise = 1; promise <= 27; promise++) {
            if (!promises.contains(String.format("promise%02d", promise))) {
                failed++;
                System.out.println("  promise " + promise + " has no test");
            }
        }
        System.out.println("tests: " + passed + " passed, " + failed + " failed");
        if (failed != 0) {
            System.exit(1);
        }
    }

    private static boolean isTest(Method method) {
        return Modifier.isStatic(method.getModifiers()) && !Modifier.isPrivate(method.getModifiers())
                && Arrays.equals(method.getParameterTypes(), new Class<?>[] {Checks.class});
    }

    private static void runTest(Method method) throws IllegalAccessException {
        Checks checks = new Checks();
        boolean ended = false;
        try {
            method.invoke(null, checks);
            ended = true;
        } catch (InvocationTargetException e) {
            e.getCause().printStackTrace(System.out);
        }
        boolean good = ended && checks.wrong() == 0 && checks.made() > 0;
        System.out.println("  " + (good ? "ok   " : "FAIL ") + method.getName() + " (" + checks.made() + " checks)");
        if (good) {
            passed++;
        } else {
            failed++;
        }
    }
}
