import java.lang.reflect.Constructor;
import java.lang.reflect.Field;
import java.lang.reflect.Method;
import java.lang.reflect.Modifier;
import java.util.ArrayList;
import java.util.Arrays;
import java.util.List;
import java.util.TreeSet;

/** The public face is the document's and no more (rules 1 and 5), and calls make no objects (the room). */
public final class FaceTest {
    private static final String[] FACE = {
        "public int SealedPages.put(int,int)", "public int SealedPages.fill(int,long)",
        "public int SealedPages.draft(int)", "public int SealedPages.read(int)",
        "public int SealedPages.write(int)", "public int SealedPages.seal()",
        "public int SealedPages.size()", "public int SealedPages.disk(int)",
        "public int SealedPages.alter(int,int)", "public int SealedPages.carry(int,int,int)",
        "public int SealedPages.root(int)", "public int SealedPages.fault(int)",
        "public int SealedPages.held()", "public int SealedPages.first()",
        "public int SealedPages.levels()", "public int SealedPages.node(int,int)",
        "public int SealedPages.proof(int)", "public int SealedPages.beside(int,int,int)",
        "public int SealedPages.keep()", "public int SealedPages.back()",
        "public int SealedPages.open()", "public int SealedPages.hash(int,int)",
        "public int SealedPages.told(int)", "public SealedPages(int)",
        "public static final int SealedPages.NONE"
    };

    private static final Checks CHECKS = new Checks("FaceTest");

    public static void main(String[] args) {
        membersAreTheFace();
        privateNamesAreTheirOwn();
        staticFieldsAreFinal();
        callsMakeNoObjects();
        CHECKS.end();
    }

    private static void truth(String what, boolean holds) {
        CHECKS.due(what, holds ? 1 : 0, 1);
    }

    private static void membersAreTheFace() {
        Class<?> c = SealedPages.class;
        truth("public and final", c.getModifiers() == (Modifier.PUBLIC | Modifier.FINAL));
        TreeSet<String> seen = new TreeSet<>();
        for (Method m : c.getDeclaredMethods()) {
            if (!Modifier.isPrivate(m.getModifiers())) seen.add(m.toString());
        }
        for (Constructor<?> m : c.getDeclaredConstructors()) {
            if (!Modifier.isPrivate(m.getModifiers())) seen.add(m.toString());
        }
        for (Field m : c.getDeclaredFields()) {
            if (!Modifier.isPrivate(m.getModifiers())) seen.add(m.toString());
        }
        TreeSet<String> wanted = new TreeSet<>(Arrays.asList(FACE));
        truth("the face " + seen, seen.equals(wanted));
    }

    private static List<Class<?>> allClasses() {
        List<Class<?>> all = new ArrayList<>();
        all.add(SealedPages.class);
        all.addAll(Arrays.asList(SealedPages.class.getDeclaredClasses()));
        return all;
    }

    private static void privateNamesAreTheirOwn() {
        TreeSet<String> open = new TreeSet<>();
        for (Method m : SealedPages.class.getMethods()) {
            open.add(m.getName());
        }
        for (Class<?> c : allClasses()) {
            for (Method m : c.getDeclaredMethods()) {
                if (!Modifier.isPublic(m.getModifiers())) {
                    truth("own name of " + m, !open.contains(m.getName()));
                }
                truth("parameters of " + m, m.getParameterCount() <= 7);
            }
        }
    }

    private static void staticFieldsAreFinal() {
        for (Class<?> c : allClasses()) {
            int own = 0;
            for (Field f : c.getDeclaredFields()) {
                if (Modifier.isStatic(f.getModifiers())) truth("final " + f, Modifier.isFinal(f.getModifiers()));
                else own++;
            }
            truth("fields of " + c, own <= 20);
        }
    }

    private static void callsMakeNoObjects() {
        var bean = (com.sun.management.ThreadMXBean) java.lang.management.ManagementFactory.getThreadMXBean();
        SealedPages x = new SealedPages(64);
        everyCall(x);
        long before = bean.getCurrentThreadAllocatedBytes();
        for (int i = 0; i < 20; i++) {
            everyCall(x);
        }
        long made = bean.getCurrentThreadAllocatedBytes() - before;
        // 460 calls; a kept or copied disk would be some 32,000 bytes each time.
        truth("460 calls made " + made + " bytes", made < 16_000);
    }

    private static int everyCall(SealedPages x) {
        return x.put(1, 2) + x.fill(1, 2L) + x.draft(1) + x.read(1) + x.write(1) + x.seal() + x.size() + x.disk(1)
                + x.alter(1, 0) + x.carry(1, 1, 1) + x.root(1) + x.fault(1) + x.held() + x.first() + x.levels()
                + x.node(1, 1) + x.proof(1) + x.beside(1, 1, 1) + x.keep() + x.back() + x.open() + x.hash(1, 1)
                + x.told(1);
    }
}
