import java.lang.management.ManagementFactory;
import java.lang.reflect.Array;
import java.lang.reflect.Constructor;
import java.lang.reflect.Field;
import java.lang.reflect.Method;
import java.lang.reflect.Modifier;
import java.util.ArrayList;
import java.util.IdentityHashMap;
import java.util.List;
import java.util.Map;
import java.util.Set;
import java.util.TreeSet;

/** The face is the document's and no more, and an object and its calls take little room. */
public final class FaceTest {
    private static final Checks CHECKS = new Checks("FaceTest");

    private static final String[] METHODS = {
        "void nodes(int) IllegalArgumentException",
        "int arc(int,int) IndexOutOfBoundsException",
        "boolean cut(int,int) IndexOutOfBoundsException",
        "int parts()",
        "int part(int) IndexOutOfBoundsException",
        "int about(int,int) IndexOutOfBoundsException IllegalArgumentException",
        "boolean reaches(int,int) IndexOutOfBoundsException",
        "int walk(int,int) IndexOutOfBoundsException",
        "int counted(int,int) IndexOutOfBoundsException IllegalArgumentException",
        "int missing()",
        "void variables(int) IllegalArgumentException",
        "int clause(int,int) IllegalArgumentException",
        "void drop(int) IndexOutOfBoundsException",
        "boolean can()",
        "int value(int) IllegalArgumentException IllegalStateException",
        "int fixed(int) IllegalArgumentException IllegalStateException",
        "boolean implies(int,int) IllegalArgumentException IllegalStateException",
        "int fails()",
        "int round()",
        "int rounds()",
        "int classes() IllegalStateException",
    };

    public static void main(String[] args) throws IllegalAccessException {
        theMethodsAreTheDocuments();
        theRestIsPrivate();
        anObjectIsSmall();
        callsMakeNothing();
        CHECKS.end();
    }

    private static void theMethodsAreTheDocuments() {
        Set<String> want = new TreeSet<>(List.of(METHODS));
        Set<String> faceNames = new TreeSet<>();
        Set<String> got = new TreeSet<>();
        List<String> privateNames = new ArrayList<>();
        for (Method method : ClauseGraph.class.getDeclaredMethods()) {
            if (Modifier.isPrivate(method.getModifiers())) {
                privateNames.add(method.getName());
            } else {
                got.add(written(method));
                faceNames.add(method.getName());
                CHECKS.due(method.getName() + " is public alone", method.getModifiers(), Modifier.PUBLIC);
            }
        }
        CHECKS.due("the methods " + got + " are " + want, got.equals(want), true);
        for (String name : privateNames) {
            CHECKS.due("a private method bears the name " + name, faceNames.contains(name), false);
        }
    }

    private static String written(Method method) {
        StringBuilder text = new StringBuilder();
        text.append(method.getReturnType().getSimpleName()).append(' ').append(method.getName()).append('(');
        for (int i = 0; i < method.getParameterCount(); i++) {
            text.append(i == 0 ? "" : ",").append(method.getParameterTypes()[i].getSimpleName());
        }
        text.append(')');
        for (Class<?> thrown : method.getExceptionTypes()) {
            text.append(' ').append(thrown.getSimpleName());
        }
        return text.toString();
    }

    private static void theRestIsPrivate() {
        CHECKS.due("the class", ClauseGraph.class.getModifiers(), Modifier.PUBLIC | Modifier.FINAL);
        Constructor<?>[] constructors = ClauseGraph.class.getDeclaredConstructors();
        CHECKS.due("constructors", constructors.length, 1);
        CHECKS.due("its arguments", constructors[0].getParameterCount(), 0);
        CHECKS.due("the constructor is public", constructors[0].getModifiers(), Modifier.PUBLIC);
        for (Field field : ClauseGraph.class.getDeclaredFields()) {
            boolean isPrivate = Modifier.isPrivate(field.getModifiers());
            CHECKS.due(field.getName() + " is private", isPrivate, !field.getName().equals("NONE"));
        }
        for (Class<?> inside : ClauseGraph.class.getDeclaredClasses()) {
            CHECKS.due(inside + " is static", Modifier.isStatic(inside.getModifiers()), true);
            CHECKS.due(inside + " is not public", Modifier.isPublic(inside.getModifiers()), false);
            for (Field field : inside.getDeclaredFields()) {
                int kind = field.getModifiers();
                CHECKS.due(field + ": no static state", !Modifier.isStatic(kind) || Modifier.isFinal(kind), true);
            }
        }
    }

    private static void anObjectIsSmall() throws IllegalAccessException {
        Map<Object, Boolean> found = new IdentityHashMap<>();
        int[] room = new int[1];
        measure(new ClauseGraph(), found, room);
        CHECKS.due(found.size() + " objects are few", found.size() < 100, true);
        CHECKS.due(room[0] + " fields and elements are few", room[0] < 8000, true);
    }

    private static void measure(Object object, Map<Object, Boolean> found, int[] room)
            throws IllegalAccessException {
        if (object == null || found.put(object, true) != null) {
            return;
        }
        if (object.getClass().isArray()) {
            room[0] += Array.getLength(object);
            return;
        }
        for (Field field : object.getClass().getDeclaredFields()) {
            if (!Modifier.isStatic(field.getModifiers())) {
                room[0]++;
                field.setAccessible(true);
                if (!field.getType().isPrimitive()) {
                    measure(field.get(object), found, room);
                }
            }
        }
    }

    /** The Java machine itself may make a little meanwhile, so this asks for little, not for nothing. */
    private static void callsMakeNothing() {
        com.sun.management.ThreadMXBean bean =
                (com.sun.management.ThreadMXBean) ManagementFactory.getThreadMXBean();
        long id = Thread.currentThread().getId();
        callEach(new ClauseGraph());
        ClauseGraph x = new ClauseGraph();
        long before = bean.getThreadAllocatedBytes(id);
        callEach(x);
        long made = bean.getThreadAllocatedBytes(id) - before;
        CHECKS.due(made + " bytes for some 500 calls are few", made < 20_000, true);
    }

    private static void callEach(ClauseGraph x) {
        x.nodes(160);
        x.variables(80);
        for (int turn = 0; turn < 25; turn++) {
            x.arc(turn, turn + 1);
            x.arc(turn * 7 % 160, turn * 11 % 160);
            x.cut(turn - turn % 2, turn - turn % 2 + 1);
            x.parts();
            x.part(turn);
            for (int what = 0; what <= 6; what++) {
                x.about(turn, what);
            }
            x.walk(turn, 0);
            x.counted(turn, turn % 2);
            x.missing();
            x.clause(turn + 1, -turn - 2);
            x.clause(-turn - 1, turn + 2);
            x.drop(turn / 2);
            x.value(turn + 1);
            x.implies(turn + 1, 1);
            x.classes();
        }
        x.clause(80, 80);
        x.clause(-80, -80);
        x.fails();
        x.round();
        x.rounds();
    }
}
