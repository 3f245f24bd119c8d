import java.lang.reflect.InvocationTargetException;
import java.lang.reflect.Method;
import java.lang.reflect.Modifier;
import java.util.Arrays;
import java.util.Comparator;

/** Runs every test method of a class, so that none can be forgotten. */
final class Every {
    private Every() {
    }

    /** A test method is static, and its name begins with "promise". */
    static void test(Class<?> tests, Due due) throws IllegalAccessException {
        Method[] methods = tests.getDeclaredMethods();
        Arrays.sort(methods, Comparator.comparing(Method::getName));
        for (Method method : methods) {
            if (Modifier.isStatic(method.getModifiers()) && method.getName().startsWith("promise")) {
                method.setAccessible(true);
                due.begin(method.getName());
                try {
                    method.invoke(null);
                } catch (InvocationTargetException thrown) {
                    due.holds("throws nothing, but " + thrown.getCause(), false);
                }
            }
        }
        due.end();
    }
}
