import java.lang.management.ManagementFactory;
import java.lang.reflect.Constructor;
import java.lang.reflect.Field;
import java.lang.reflect.Method;
import java.lang.reflect.Modifier;
import java.util.Arrays;
import java.util.TreeSet;

/** The document's face and nothing else, and the room that a run takes. */
public final class FaceTest {
    private static final Check CHECK = new Check("FaceTest");

    public static void main(String[] args) {
        faceIsThatOfTheDocument();
        allElseIsPrivate();
        callsMakeNoObjects();
        CHECK.end();
    }

    private static void faceIsThatOfTheDocument() {
        TreeSet<String> due = new TreeSet<>(Arrays.asList(
                "boolean start(int, int)", "boolean crash(int)", "boolean leave(int)",
                "boolean cut(int, int, boolean)", "boolean drop(int)", "boolean swap(int)", "int ticks(int)",
                "int now()", "int flight()", "int message(int, int)", "int view(int, int, int)",
                "int node(int, int)", "int queued(int, int)", "boolean agreed()"));
        TreeSet<String> found = new TreeSet<>();
        for (Method method : GossipNodes.class.getDeclaredMethods()) {
            if (!Modifier.isPrivate(method.getModifiers())) {
                String parameters = String.join(", ",
                        Arrays.stream(method.getParameterTypes()).map(Class::getName).toList());
                found.add(method.getReturnType().getName() + " " + method.getName() + "(" + parameters + ")");
            }
        }
        CHECK.due("methods " + found, found.equals(due), true);
        Constructor<?>[] constructors = GossipNodes.class.getDeclaredConstructors();
        CHECK.due("constructors", constructors.length, 1);
        CHECK.due("public constructor", Modifier.isPublic(constructors[0].getModifiers()), true);
        CHECK.due("of one int", Arrays.equals(constructors[0].getParameterTypes(), new Class<?>[] {int.class}), true);
        int modifiers = GossipNodes.class.getModifiers();
        CHECK.due("public final", Modifier.isPublic(modifiers) && Modifier.isFinal(modifiers), true);
    }

    private static void allElseIsPrivate() {
        for (Field field : GossipNodes.class.getDeclaredFields()) {
            int modifiers = field.getModifiers();
            CHECK.due("private " + field.getName(), Modifier.isPrivate(modifiers), true);
            CHECK.due("no changing static " + field.getName(),
                    !Modifier.isStatic(modifiers) || Modifier.isFinal(modifiers), true);
        }
        for (Class<?> inside : GossipNodes.class.getDeclaredClasses()) {
            int modifiers = inside.getModifiers();
            CHECK.due("static " + inside, Modifier.isStatic(modifiers), true);
            CHECK.due("not public " + inside, Modifier.isPublic(modifiers) || Modifier.isProtected(modifiers), false);
        }
    }

    private static void callsMakeNoObjects() {
        com.sun.management.ThreadMXBean threads =
                (com.sun.management.ThreadMXBean) ManagementFactory.getThreadMXBean();
        busyRun(new GossipNodes(8));
        long before = threads.getCurrentThreadAllocatedBytes();
        GossipNodes x = new GossipNodes(8);
        busyRun(x);
        long made = threads.getCurrentThreadAllocatedBytes() - before;
        CHECK.due("a run takes " + made + " bytes, under a hundred thousand", made < 100_000, true);
    }

    private static void busyRun(GossipNodes x) {
        for (int i = 0; i < 8; i++) {
            x.start(i, 0);
        }
        for (int i = 0; i < 100; i++) {
            x.cut(i % 8, (i + 3) % 8, i % 2 == 0);
            x.ticks(100);
            x.leave(i % 8);
            x.start(i % 8, (i + 1) % 8);
            x.agreed();
        }
    }
}
