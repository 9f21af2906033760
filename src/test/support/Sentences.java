import java.lang.reflect.InvocationTargetException;
import java.lang.reflect.Method;
import java.util.Map;
import java.util.TreeMap;
import java.util.function.IntSupplier;

/** Runs tests that are each the test of one sentence, and tells by promise and sentence which of them failed. */
public class Sentences extends Orders {
    private static int asked = 0;
    private static int wrong = 0;
    private static boolean quiet = false;
    private static Says now = null;

    Sentences() {
    }

    public static void due(String what, long got, long want) {
        asked++;
        if (got != want) {
            tell(what + " answered " + got + ", due is " + want);
        }
    }

    private static void tell(String what) {
        wrong++;
        if (!quiet) {
            System.out.println(now.where() + ", '" + now.text() + "': " + what);
        }
    }

    /** A call that is refused tells so by its answer, by status() and by count(), and changes no other of these. */
    public static void refused(HardestVows x, String what, IntSupplier call, int by) {
        answered(x, what, call, by, by);
    }

    /** A call that is not refused, whatever it answers, tells so by status() and by count(). */
    public static void accepted(HardestVows x, String what, IntSupplier call, int told) {
        answered(x, what, call, told, 0);
    }

    private static void answered(HardestVows x, String what, IntSupplier call, int told, int status) {
        int[] reasons = {-1, -2, -3, -5, -6};
        int[] ahead = new int[reasons.length];
        for (int i = 0; i < reasons.length; i++) {
            ahead[i] = x.count(7 + i);
        }
        due(what, call.getAsInt(), told);
        due("status() behind " + what, x.status(), status);
        for (int i = 0; i < reasons.length; i++) {
            due("count(" + (7 + i) + ") behind " + what, x.count(7 + i), ahead[i] + (reasons[i] == status ? 1 : 0));
        }
    }

    /** Where a text has its fault as a law, -1 for none. */
    public static void lawFault(String text, int place) {
        HardestVows x = new HardestVows();
        due("law '" + text + "'", law(x, text), place == -1 ? 0 : -6);
        due("fault of law '" + text + "'", x.fault(), place);
        due("laws behind '" + text + "'", x.count(4), place == -1 ? 1 : 0);
    }

    /** Where a text has its fault as orders, -1 for none; it is asked of two monks without vows. */
    public static void orderFault(String text, int place) {
        HardestVows x = with(10, 20);
        int told = orders(x, text);
        due("whether orders '" + text + "' can't be read", told == -6 ? 1 : 0, place == -1 ? 0 : 1);
        due("fault of orders '" + text + "'", x.fault(), place);
    }

    /** The tests of a class by their names. */
    public static Map<String, Method> of(Class<?> tests) {
        Map<String, Method> all = new TreeMap<>();
        for (Method m : tests.getDeclaredMethods()) {
            if (m.isAnnotationPresent(Says.class)) {
                all.put(m.getName(), m);
            }
        }
        return all;
    }

    /** How many answers were not as due; what is thrown is one, too. */
    private static int wrongOf(Method test) {
        int ahead = wrong;
        now = test.getAnnotation(Says.class);
        try {
            test.setAccessible(true);
            test.invoke(null);
        } catch (InvocationTargetException e) {
            tell("it threw " + e.getCause());
        } catch (IllegalAccessException e) {
            tell("it can't be called");
        }
        return wrong - ahead;
    }

    public static void run(Class<?> tests) {
        int count = 0;
        int failed = 0;
        for (Method test : of(tests).values()) {
            count++;
            failed += wrongOf(test) == 0 ? 0 : 1;
        }
        System.out.println(count + " sentences, " + asked + " answers asked, " + failed + " sentences do not hold");
        if (count == 0 || failed != 0) {
            System.exit(1);
        }
    }

    /** Whether one test of a class fails, told by nothing but the answer. */
    public static boolean fails(Class<?> tests, String name) {
        quiet = true;
        Method test = of(tests).get(name);
        return test != null && wrongOf(test) != 0;
    }
}
