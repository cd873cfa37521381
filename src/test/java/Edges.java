import java.lang.reflect.InvocationTargetException;
import java.lang.reflect.Method;
import java.lang.reflect.Modifier;
import java.util.Arrays;
import java.util.Comparator;
import java.util.function.Predicate;
import java.util.function.ToIntFunction;

/** Tests of the document's boundary cases: each says with of() the section and the words that it is of. */
final class Edges {
    private final Checks checks = new Checks();
    private String place = "";

    void of(String section, String words) {
        place = section + ", \"" + words + "\": ";
    }

    void due(String what, long got, long want) {
        checks.due(place + what, got, want);
    }

    void due(String what, boolean got, boolean want) {
        checks.due(place + what, got, want);
    }

    /** The call answers false, and nothing has changed behind it. */
    void refused(String what, Past past, Predicate<FoulRights> call) {
        refused(what, past, 0, x -> call.test(x) ? 1 : 0);
    }

    /** The call answers what is due of a refused one, and nothing has changed behind it. */
    void refused(String what, Past past, int want, ToIntFunction<FoulRights> call) {
        String where = what + " (" + past + ")";
        due(where, call.applyAsInt(past.object()), want);
        String change = past.changedBy(call::applyAsInt);
        due(where + " changes nothing " + change, change.isEmpty(), true);
    }

    void refusedAnywhere(String what, Predicate<FoulRights> call) {
        for (Past past : Pasts.ANYWHERE) {
            refused(what, past, call);
        }
    }

    void refusedAnywhere(String what, int want, ToIntFunction<FoulRights> call) {
        for (Past past : Pasts.ANYWHERE) {
            refused(what, past, want, call);
        }
    }

    /** Runs every test of a class, so that none is forgotten. */
    void run(Class<?> tests) throws ReflectiveOperationException {
        Method[] methods = tests.getDeclaredMethods();
        Arrays.sort(methods, Comparator.comparing(Method::getName));
        for (Method m : methods) {
            if (isTest(m)) {
                place = "";
                runOne(m);
                due(m.getName() + " says what it is of", place.isEmpty(), false);
            }
        }
        checks.close();
    }

    private static boolean isTest(Method m) {
        boolean bare = m.getParameterCount() == 0 && m.getReturnType() == void.class;
        return bare && Modifier.isStatic(m.getModifiers()) && !m.isSynthetic();
    }

    private void runOne(Method m) throws ReflectiveOperationException {
        m.setAccessible(true);
        try {
            m.invoke(null);
        } catch (InvocationTargetException e) {
            due(m.getName() + " threw " + e.getCause(), false, true);
        }
    }
}
