import java.lang.reflect.InvocationTargetException;
import java.lang.reflect.Method;
import java.lang.reflect.Modifier;
import java.util.Map;
import java.util.TreeMap;

/**
 * Runs the tests of the edges that the document names. Each is a method of its own whose name begins with
 * p and the number of the promise that it looks at; behind it comes Terms and a part's number, if the sentence
 * stands there.
 */
final class Edges {
    /** Far from all that any call takes, and such that a few low bits alone would be taken. */
    private static final int[] FAR = {
        Integer.MIN_VALUE, Integer.MIN_VALUE + 1, Integer.MIN_VALUE + 40, -65536, -65500, -256, -223, -64, -32, -31,
        32, 33, 64, 128, 256, 257, 300, 65536, 65537, 65600, 1 << 30, Integer.MAX_VALUE - 1, Integer.MAX_VALUE,
    };

    private Edges() {
    }

    /** Runs all tests of a class; each promise from the first to the last one must have some. */
    static void run(Class<?> tests, int first, int last) throws ReflectiveOperationException {
        Map<String, Method> byName = new TreeMap<>();
        for (Method method : tests.getDeclaredMethods()) {
            if (method.getName().matches("p[0-9][0-9].*")) {
                byName.put(method.getName(), method);
            }
        }
        for (int promise = first; promise <= last; promise++) {
            String start = String.format("p%02d", promise);
            boolean some = byName.keySet().stream().anyMatch(name -> name.startsWith(start));
            Check.due("promise " + promise + " has a test", some ? 1 : 0, 1);
        }
        for (Method method : byName.values()) {
            play(method);
        }
        System.out.println(byName.size() + " tests of edges");
        Check.end(tests.getSimpleName());
    }

    private static void play(Method method) throws IllegalAccessException {
        Check.within(method.getName());
        if (!Modifier.isStatic(method.getModifiers()) || method.getParameterCount() != 0) {
            Check.due("a test without arguments", 0, 1);
            return;
        }
        int before = Check.asked();
        try {
            method.setAccessible(true);
            method.invoke(null);
        } catch (InvocationTargetException e) {
            Check.due("threw " + e.getCause(), 1, 0);
        }
        Check.due("something is looked at", Check.asked() > before ? 1 : 0, 1);
        Check.within("");
    }

    /** Numbers that are not low to high: the two next to these on each side, and some far away. */
    static int[] beyond(int low, int high) {
        int[] all = java.util.Arrays.copyOf(FAR, FAR.length + 4);
        all[FAR.length] = low - 2;
        all[FAR.length + 1] = low - 1;
        all[FAR.length + 2] = high + 1;
        all[FAR.length + 3] = high + 2;
        return java.util.Arrays.stream(all).filter(n -> n < low || n > high).toArray();
    }

    static int[] noStations() {
        return beyond(0, 5);
    }
}
