import java.lang.reflect.InvocationTargetException;
import java.lang.reflect.Method;
import java.util.Map;
import java.util.TreeMap;

/** Runs the tests of a class that stand for sentences of the document. */
final class Sentences {
    private Sentences() { }

    static void run(Class<?> tests) {
        Map<String, Method> byName = new TreeMap<>();
        for (Method method : tests.getDeclaredMethods()) {
            if (method.isAnnotationPresent(Sentence.class)) {
                byName.put(method.getName(), method);
            }
        }
        Check.due("tests in " + tests.getSimpleName(), byName.size() > 0, true);
        for (Method method : byName.values()) {
            String words = method.getAnnotation(Sentence.class).value();
            Check.in(tests.getSimpleName() + "." + method.getName() + " \"" + words + "\": ");
            runOne(method);
        }
        System.out.println(tests.getSimpleName() + ": " + byName.size() + " tests");
        Check.finish();
    }

    private static void runOne(Method test) {
        try {
            test.invoke(null);
        } catch (InvocationTargetException e) {
            Check.due("the test itself", e.getCause().toString(), "no exception");
        } catch (IllegalAccessException e) {
            throw new AssertionError(e);
        }
    }
}
