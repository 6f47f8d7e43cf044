import com.sun.management.ThreadMXBean;
import java.lang.management.ManagementFactory;
import java.lang.reflect.Field;
import java.lang.reflect.Method;
import java.lang.reflect.Modifier;
import java.util.Arrays;
import java.util.Set;
import java.util.TreeSet;

/** The public face of the class, and how much room its dearest runs of calls take. */
public final class FaxRowsFace {
    private static final Set<String> FACE = new TreeSet<>(Arrays.asList(
            "boolean put(int, boolean)",
            "boolean endRow()",
            "int encode()",
            "int byteAt(int)",
            "boolean feed(int)",
            "int decode()",
            "boolean at(int, int)",
            "boolean damaged(int)",
            "int changes(int, int)",
            "int mode(int, int)",
            "boolean fill(int)",
            "boolean repair(int)",
            "int order(boolean)",
            "void clear()"));

    private static int wrong = 0;

    private static void due(String what, boolean holds) {
        if (!holds) {
            wrong++;
            System.out.println(what + ": does not hold");
        }
    }

    private static String inWords(Method method) {
        String types = Arrays.toString(method.getParameterTypes());
        return method.getReturnType() + " " + method.getName()
                + types.replace('[', '(').replace(']', ')');
    }

    private static void face() {
        Set<String> open = new TreeSet<>();
        Set<String> names = new TreeSet<>();
        for (Method method : FaxRows.class.getDeclaredMethods()) {
            if (!Modifier.isPrivate(method.getModifiers())) {
                open.add(inWords(method));
                names.add(method.getName());
            }
        }
        due("the methods " + open, open.equals(FACE));
        for (Method method : FaxRows.class.getDeclaredMethods()) {
            boolean isPrivate = Modifier.isPrivate(method.getModifiers());
            due(method + " has a name of its own", !isPrivate || !names.contains(method.getName()));
        }
        for (Field field : FaxRows.class.getDeclaredFields()) {
            due(field + " is private, or is NONE",
                    Modifier.isPrivate(field.getModifiers()) || field.getName().equals("NONE"));
            due(field + " is final if it is static",
                    !Modifier.isStatic(field.getModifiers())
                            || Modifier.isFinal(field.getModifiers()));
        }
        due("the class is public and final",
                FaxRows.class.getModifiers() == (Modifier.PUBLIC | Modifier.FINAL));
        due("one constructor", FaxRows.class.getDeclaredConstructors().length == 1);
        for (Class<?> inside : FaxRows.class.getDeclaredClasses()) {
            due(inside + " is static and not open", Modifier.isStatic(inside.getModifiers())
                    && !Modifier.isPublic(inside.getModifiers())
                    && !Modifier.isProtected(inside.getModifiers()));
        }
    }

    private static long bytesMade() {
        ThreadMXBean threads = (ThreadMXBean) ManagementFactory.getThreadMXBean();
        return threads.getThreadAllocatedBytes(Thread.currentThread().getId());
    }

    /** As many calls as an object has, on rows as wide and as filled as can be. */
    private static void dearestRun(int kind) {
        long before = bytesMade();
        FaxRows x = new FaxRows(kind, 3000);
        int calls = 0;
        for (int i = 0; i < 24; i++) {
            x.put(i * 100, true);
            x.put(2999 - i, true);
            x.endRow();
            calls += 3;
        }
        x.fill(4000);
        calls++;
        for (; calls < 512; calls += 2) {
            x.encode();
            x.decode();
        }
        long made = bytesMade() - before;
        due("kind " + kind + " takes little room (" + made + " bytes)", made < 200_000);
    }

    private static void manyObjects() {
        long before = bytesMade();
        for (int i = 0; i < 512; i++) {
            new FaxRows(i % 3, 3000).put(0, true);
        }
        long made = bytesMade() - before;
        due("512 objects take little room (" + made + " bytes)", made < 6_000_000);
    }

    public static void main(String[] args) {
        face();
        for (int kind = 0; kind <= 2; kind++) {
            dearestRun(kind);
        }
        manyObjects();
        System.out.println(wrong == 0 ? "the face is as due" : wrong + " things do not hold");
        if (wrong != 0) {
            System.exit(1);
        }
    }
}
