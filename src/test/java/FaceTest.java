import java.io.IOException;
import java.lang.reflect.Array;
import java.lang.reflect.Field;
import java.lang.reflect.Method;
import java.lang.reflect.Modifier;
import java.nio.file.Files;
import java.nio.file.Path;
import java.util.ArrayDeque;
import java.util.Arrays;
import java.util.Collections;
import java.util.Deque;
import java.util.IdentityHashMap;
import java.util.List;
import java.util.Set;
import java.util.TreeSet;
import java.util.regex.Matcher;
import java.util.regex.Pattern;

/** The public face, the constants, and those rules of LANGUAGE.md that can be seen from outside or in the text. */
public final class FaceTest {
    private static final String[] FACE = {
        "say 1", "wipe 0", "fault 0", "name 2", "forget 2", "set 3", "near 3", "send 1", "run 1", "heard 2",
        "written 2", "last 2", "trail 2", "reach 3", "fewest 2", "bridges 3", "image 1", "restore 1", "count 1",
    };
    private static final String[] CONSTANTS = {
        "FAULT -7", "FULL -4", "NONE -6", "OUTSIDE -2", "STATE -3", "UNKNOWN -1",
    };
    private static final String[] FORBIDDEN = {
        "\\bthrow\\b", "\\bthrows\\b", "\\btry\\b", "\\bcatch\\b", "\\bsynchronized\\b", "\\bassert\\b", "->", "::",
        "Exact\\b", "\\bObject\\b", "\\bimport\\b", "\\bpackage\\b", "\\bSystem\\.(?!arraycopy)", "\\bprotected\\b",
        "\\btoString\\b", "\\bhashCode\\b", "\\bequals\\b", "\\bThread\\b", "\\bvolatile\\b", "\\bnative\\b",
        "\\bstatic\\s*\\{", "while \\(true\\)", "for \\(;;\\)", "[^\\x00-\\x7f]",
    };

    private FaceTest() {
    }

    public static void main(String[] args) throws ReflectiveOperationException, IOException {
        face();
        constants();
        classesInside();
        room();
        text();
        Check.end("FaceTest");
    }

    private static void face() {
        Class<?> c = PathWords.class;
        Check.due("public final", Modifier.isPublic(c.getModifiers()) && Modifier.isFinal(c.getModifiers()) ? 1 : 0, 1);
        Check.due("constructors", c.getDeclaredConstructors().length, 1);
        Check.due("public constructors without arguments", c.getConstructors().length, 1);
        Check.due("arguments", c.getConstructors()[0].getParameterCount(), 0);
        Set<String> methods = new TreeSet<>();
        for (Method m : c.getDeclaredMethods()) {
            if (!Modifier.isPrivate(m.getModifiers())) {
                boolean ints = m.getReturnType() == int.class
                        && Arrays.stream(m.getParameterTypes()).allMatch(t -> t == int.class);
                Check.due("public, of ints: " + m, Modifier.isPublic(m.getModifiers()) && ints ? 1 : 0, 1);
                methods.add(m.getName() + " " + m.getParameterCount());
            }
        }
        Check.due("methods", methods.toString(), new TreeSet<>(List.of(FACE)).toString());
    }

    private static void constants() throws IllegalAccessException {
        Set<String> seen = new TreeSet<>();
        for (Field f : PathWords.class.getDeclaredFields()) {
            int m = f.getModifiers();
            if (!Modifier.isPrivate(m)) {
                boolean constant = Modifier.isPublic(m) && Modifier.isStatic(m) && Modifier.isFinal(m);
                Check.due("a constant: " + f, constant && f.getType() == int.class ? 1 : 0, 1);
                seen.add(f.getName() + " " + f.getInt(null));
            }
        }
        Check.due("constants", seen.toString(), new TreeSet<>(List.of(CONSTANTS)).toString());
    }

    private static void classesInside() {
        Set<String> taken = new TreeSet<>();
        for (String line : FACE) {
            taken.add(line.substring(0, line.indexOf(' ')));
        }
        Class<?>[] inside = PathWords.class.getDeclaredClasses();
        Check.due("at most twelve classes", inside.length <= 11 ? 1 : 0, 1);
        for (Class<?> c : inside) {
            Check.due("static: " + c, Modifier.isStatic(c.getModifiers()) ? 1 : 0, 1);
            boolean hidden = !Modifier.isPublic(c.getModifiers()) && !Modifier.isProtected(c.getModifiers());
            Check.due("hidden: " + c, hidden ? 1 : 0, 1);
            for (Method m : c.getDeclaredMethods()) {
                Check.due("no name of the face: " + m, taken.contains(m.getName()) ? 1 : 0, 0);
            }
        }
        for (Method m : PathWords.class.getDeclaredMethods()) {
            if (Modifier.isPrivate(m.getModifiers())) {
                Check.due("no name of the face: " + m, taken.contains(m.getName()) ? 1 : 0, 0);
            }
        }
        fields(PathWords.class);
        for (Class<?> c : inside) {
            fields(c);
        }
    }

    private static void fields(Class<?> c) {
        int own = 0;
        for (Field f : c.getDeclaredFields()) {
            if (Modifier.isStatic(f.getModifiers())) {
                Check.due("static and final: " + f, Modifier.isFinal(f.getModifiers()) ? 1 : 0, 1);
                Check.due("a plain constant: " + f, f.getType() == int.class ? 1 : 0, 1);
            } else {
                own++;
            }
        }
        Check.due("at most twenty fields: " + c, own <= 20 ? 1 : 0, 1);
    }

    /** All calls of a run make no more than the object and both images: some 1,000 objects, some 10,000 elements. */
    private static void room() throws IllegalAccessException {
        PathWords x = new PathWords();
        Check.join(x, 0, 1, 1, 2, 2, 3, 3, 4, 4, 5, 0, 5);
        for (int s = 0; s < 6; s++) {
            Check.flood(x, s, "W");
            x.set(s, 2, 0);
        }
        x.image(0);
        x.image(1);
        Check.due("room", counted(x)[0] <= 2000 && counted(x)[1] <= 15000 ? 1 : 0, 1);
        com.sun.management.ThreadMXBean threads =
                (com.sun.management.ThreadMXBean) java.lang.management.ManagementFactory.getThreadMXBean();
        dearCalls(x, 5);
        long before = threads.getCurrentThreadAllocatedBytes();
        dearCalls(x, 55);
        long made = threads.getCurrentThreadAllocatedBytes() - before;
        Check.due("calls make nothing (" + made + " bytes)", made < 4000 ? 1 : 0, 1);
    }

    private static void dearCalls(PathWords x, int calls) {
        x.wipe();
        x.say('W');
        for (int i = 0; i < calls; i++) {
            x.fewest(0, 3);
            x.bridges(0, 3, 7);
            x.reach(1, 7, i & 3);
            x.image(i & 1);
            x.restore(i & 1);
            x.run(50);
            x.written(1, i & 31);
        }
    }

    /** How many objects and arrays hang together, and how many fields and elements these have. */
    private static long[] counted(PathWords start) throws IllegalAccessException {
        Set<Object> seen = Collections.newSetFromMap(new IdentityHashMap<>());
        Deque<Object> open = new ArrayDeque<>();
        open.add(start);
        long cells = 0;
        while (!open.isEmpty()) {
            Object one = open.remove();
            if (!seen.add(one)) {
                continue;
            }
            if (one.getClass().isArray()) {
                cells += Array.getLength(one);
                for (int i = 0; one instanceof Object[] && i < Array.getLength(one); i++) {
                    open.add(Array.get(one, i));
                }
                continue;
            }
            for (Field f : one.getClass().getDeclaredFields()) {
                if (!Modifier.isStatic(f.getModifiers())) {
                    cells++;
                    f.setAccessible(true);
                    if (!f.getType().isPrimitive() && f.get(one) != null) {
                        open.add(f.get(one));
                    }
                }
            }
        }
        return new long[] {seen.size(), cells};
    }

    private static void text() throws IOException {
        String source = Files.readString(Path.of(System.getProperty("source", "src/main/java/PathWords.java")));
        String code = source.replaceAll("(?s)/\\*.*?\\*/", "").replaceAll("//[^\n]*", "");
        for (String pattern : FORBIDDEN) {
            Matcher found = Pattern.compile(pattern).matcher(code);
            Check.due("in the text: " + pattern, found.find() ? 1 : 0, 0);
        }
        Matcher method = Pattern.compile("(?ms)^( +)[a-zA-Z][^;={}]*\\([^;={}]*\\) \\{\n.*?^\\1\\}").matcher(code);
        int methods = 0;
        while (method.find()) {
            methods++;
            long lines = method.group().lines().count();
            Check.due("short: " + method.group().lines().findFirst().orElse(""), lines <= 60 ? 1 : 0, 1);
        }
        Check.due("methods were found", methods > 60 ? 1 : 0, 1);
    }
}
