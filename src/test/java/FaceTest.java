import java.lang.reflect.Constructor;
import java.lang.reflect.Executable;
import java.lang.reflect.Field;
import java.lang.reflect.Method;
import java.lang.reflect.Modifier;
import java.util.Arrays;
import java.util.Set;
import java.util.TreeSet;

/** The public face, and that the dearest runs of calls stay far within the room that they have. */
public final class FaceTest {
    private static final String[] FACE = {
        "boolean machine(int, int, int)", "int rule(int, int, int, int, int)", "boolean input(int, int)", "int build()",
        "int count(int)", "int literal(int, int)", "int three(int, int)", "int end(int, int)", "int apart(int, int)",
        "boolean solve() IllegalStateException", "int choice(int)", "int truth(int)", "int covers(int)", "int city(int)",
        "int put(int, int) IllegalStateException IllegalArgumentException",
        "void turn(int, boolean) IllegalStateException IllegalArgumentException",
        "int cost() IllegalStateException", "boolean pull() IllegalStateException", "boolean replay() IllegalStateException",
    };
    /** The room has 7.3 million elements; were each but one byte, so many bytes would fill it. */
    private static final long ROOM_BYTES = 7_300_000;

    private static final Check check = new Check();

    public static void main(String[] args) {
        faceIsTheDocuments();
        dearestRunFitsTheRoom();
        manyObjectsFitTheRoom();
        check.end();
    }

    private static String text(Method method) {
        StringBuilder text = new StringBuilder();
        text.append(method.getReturnType()).append(' ').append(method.getName());
        text.append(Arrays.toString(method.getParameterTypes()).replace('[', '(').replace(']', ')'));
        for (Class<?> thrown : method.getExceptionTypes()) {
            text.append(' ').append(thrown.getSimpleName());
        }
        return text.toString();
    }

    private static void faceIsTheDocuments() {
        Set<String> want = new TreeSet<>(Arrays.asList(FACE));
        Set<String> publicNames = new TreeSet<>();
        Set<String> got = new TreeSet<>();
        for (Method method : TourChain.class.getDeclaredMethods()) {
            if (!Modifier.isPrivate(method.getModifiers()) && !method.isSynthetic()) {
                check.due(method + " is public", true, Modifier.isPublic(method.getModifiers()));
                got.add(text(method));
                publicNames.add(method.getName());
            }
        }
        for (Method method : TourChain.class.getDeclaredMethods()) {
            boolean hidden = Modifier.isPrivate(method.getModifiers());
            check.due(method + " bears a name of the face", false, hidden && publicNames.contains(method.getName()));
        }
        check.due("the face " + got + ", of " + want, true, got.equals(want));
        int modifiers = TourChain.class.getModifiers();
        check.due("the class is public and final", true, Modifier.isPublic(modifiers) && Modifier.isFinal(modifiers));
        for (Field field : TourChain.class.getDeclaredFields()) {
            check.due(field + " is private", !field.getName().equals("NONE"), Modifier.isPrivate(field.getModifiers()));
        }
        for (Constructor<?> constructor : TourChain.class.getDeclaredConstructors()) {
            check.due(constructor + " is public and bare", true, isPublicAndBare(constructor));
        }
    }

    private static boolean isPublicAndBare(Executable constructor) {
        return Modifier.isPublic(constructor.getModifiers()) && constructor.getParameterCount() == 0;
    }

    private static long allocatedBytes() {
        com.sun.management.ThreadMXBean threads =
            (com.sun.management.ThreadMXBean) java.lang.management.ManagementFactory.getThreadMXBean();
        return threads.getThreadAllocatedBytes(Thread.currentThread().getId());
    }

    /** Grows as slowly as it can, so that every row is made again as often as it can be. */
    private static void dearestRunFitsTheRoom() {
        long before = allocatedBytes();
        TourChain x = new TourChain();
        int calls = 0;
        for (int size = 0; size < 12; size++) {
            int accept = 1 + size / 2 % 2;
            x.machine(accept + 1, 2 + size % 2, 1 + size / 4);
            calls++;
            for (int k = 0; k < 8; k++) {
                x.rule(0, 0, accept, 1, 1);
                x.build();
                x.solve();
                x.pull();
                x.cost();
                calls += 5;
            }
        }
        long bytes = allocatedBytes() - before;
        check.due("calls of the dearest run: " + calls, true, calls <= 512);
        System.out.println("bytes of the dearest run: " + bytes);
        check.due("bytes of the dearest run", true, bytes < ROOM_BYTES);
    }

    /** Should a run make objects anew rather than keep one, it must not fill the room either. */
    private static void manyObjectsFitTheRoom() {
        long before = allocatedBytes();
        for (int n = 0; n < 128; n++) {
            TourChain x = new TourChain();
            x.rule(0, 0, 1, 1, 1);
            x.build();
            x.solve();
        }
        long bytes = allocatedBytes() - before;
        System.out.println("bytes of many objects: " + bytes);
        // Nearly all of it are ints.
        check.due("bytes of many objects", true, bytes < 4 * ROOM_BYTES);
    }
}
