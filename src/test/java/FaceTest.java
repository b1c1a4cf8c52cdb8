import java.lang.reflect.Constructor;
import java.lang.reflect.Field;
import java.lang.reflect.Method;
import java.lang.reflect.Modifier;
import java.util.Arrays;
import java.util.Set;
import java.util.TreeSet;

/** The public face, and promise 1: a new object. */
public final class FaceTest {
    private static final String BOUNDS = "java.lang.IndexOutOfBoundsException";
    private static final String ARGUMENT = "java.lang.IllegalArgumentException";
    private static final String STATE = "java.lang.IllegalStateException";

    private static final String[] METHODS = {
        "int store(int,int) " + BOUNDS + ARGUMENT + STATE, "int write(int,int) " + BOUNDS + ARGUMENT + STATE,
        "int read(int) " + BOUNDS + STATE, "int remove(int) " + BOUNDS + STATE,
        "int lend(int,int) " + BOUNDS + ARGUMENT + STATE, "int recall(int,int) " + BOUNDS + ARGUMENT + STATE,
        "int disconnect(int) " + BOUNDS + STATE, "int reconnect(int) " + BOUNDS + STATE, "int crash(int) " + BOUNDS + STATE,
        "int pass(int) " + ARGUMENT + STATE, "int setTransferTime(int) " + ARGUMENT,
        "int appendText(int) " + ARGUMENT + STATE, "int clearText() ", "int errorPosition() ", "int runText() " + STATE,
        "int undo() " + STATE, "int save(int) " + BOUNDS, "int restore(int) " + BOUNDS + STATE,
        "int status(int) " + BOUNDS, "int copies(int) " + BOUNDS, "int countStatus(int) " + ARGUMENT,
        "int mode(int) " + BOUNDS, "boolean isConnected(int) " + BOUNDS, "int usedRoom(int) " + BOUNDS,
        "int freeRoom(int) " + BOUNDS, "int deadlineIn(int) " + BOUNDS, "int replica(int,int) " + BOUNDS,
        "int transfer(int) " + ARGUMENT, "int completedTransfers() ", "int time() ",
        "int lostWithout(int) " + ARGUMENT, "int worstPair() ", "int lostIn(int) " + ARGUMENT,
        "int restsIn() ", "int savedStates() ", "int textLength() ",
    };
    private static final String[] CONSTANTS = {
        "NONE=-1", "AWAY=0", "LENDING=1", "RECALLED=2", "LOST=-2", "UNAVAILABLE=0", "ENDANGERED=1", "SAFE=2",
    };

    public static void main(String[] args) throws IllegalAccessException {
        Checks checks = new Checks();
        face(checks);
        promise01(checks);
        checks.end();
    }

    private static void face(Checks checks) throws IllegalAccessException {
        Class<?> face = RemoteMemoryPool.class;
        checks.due("modifiers", Modifier.toString(face.getModifiers()), "public final");
        Set<String> methods = new TreeSet<>();
        for (Method method : face.getDeclaredMethods()) {
            if (!Modifier.isPrivate(method.getModifiers()) && !method.isSynthetic()) {
                checks.due(method.getName(), Modifier.toString(method.getModifiers()), "public");
                methods.add(method.getReturnType() + " " + method.getName() + "(" + types(method.getParameterTypes()) + ") "
                    + types(method.getExceptionTypes()).replace(",", ""));
            }
        }
        checks.due("methods", methods.toString(), new TreeSet<>(Arrays.asList(METHODS)).toString());
        Set<String> constants = new TreeSet<>();
        for (Field field : face.getDeclaredFields()) {
            if (!Modifier.isPrivate(field.getModifiers())) {
                checks.due(field.getName(), Modifier.toString(field.getModifiers()), "public static final");
                constants.add(field.getName() + "=" + field.getInt(null));
            }
        }
        checks.due("constants", constants.toString(), new TreeSet<>(Arrays.asList(CONSTANTS)).toString());
        Constructor<?>[] constructors = face.getDeclaredConstructors();
        checks.due("constructors", constructors.length, 1);
        checks.due("constructor", constructors[0].toString(), "public RemoteMemoryPool()");
    }

    private static String types(Class<?>[] types) {
        StringBuilder names = new StringBuilder();
        for (Class<?> type : types) {
            names.append(names.length() == 0 ? "" : ",").append(type.getName());
        }
        return names.toString();
    }

    private static void promise01(Checks checks) {
        TestedPool pool = new TestedPool();
        checks.due("time", pool.time(), 0);
        for (int page = 0; page < 30; page++) {
            checks.due("status " + page, pool.status(page), RemoteMemoryPool.NONE);
            checks.due("copies " + page, pool.copies(page), 0);
        }
        for (int host = 0; host < 6; host++) {
            checks.due("mode " + host, pool.mode(host), RemoteMemoryPool.AWAY);
            checks.due("connected " + host, pool.isConnected(host), true);
            checks.due("used " + host, pool.usedRoom(host), 0);
            checks.due("free " + host, pool.freeRoom(host), 0);
            checks.due("deadline " + host, pool.deadlineIn(host), RemoteMemoryPool.NONE);
            for (int page = 0; page < 30; page++) {
                checks.due("replica " + host + " " + page, pool.replica(host, page), 0);
            }
        }
        checks.due("transfer", pool.transfer(0), RemoteMemoryPool.NONE);
        checks.due("completed", pool.completedTransfers(), 0);
        checks.due("saved", pool.savedStates(), 0);
        checks.due("text", pool.textLength(), 0);
        checks.due("rest", pool.restsIn(), 0);
        checks.badState("the first slot is empty", pool, () -> pool.restore(0));
        checks.badState("the second slot is empty", pool, () -> pool.restore(1));
        checks.due("the transfer time is 5", new TestedPool().setTransferTime(9), 5);
        TestedPool other = new TestedPool();
        other.lend(0, 1);
        checks.due("objects share nothing", pool.mode(0), RemoteMemoryPool.AWAY);
    }
}
