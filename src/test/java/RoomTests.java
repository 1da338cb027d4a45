import java.lang.management.ManagementFactory;
import java.lang.reflect.InvocationTargetException;
import java.lang.reflect.Method;
import java.lang.reflect.Modifier;

/** What a run makes stays far below its room, and no call throws, whatever its arguments. */
public final class RoomTests {
    static final int[] FAR = {Integer.MIN_VALUE, Integer.MIN_VALUE + 1, -1024, -100, -33, -32, -3, -2, -1, 0, 1, 2, 3, 4, 5, 6, 7, 8,
        9, 10, 11, 31, 32, 33, 60, 61, 63, 64, 99, 100, 255, 256, 511, 1022, 1023, 1024, 9999, 10000, 65536,
        Integer.MAX_VALUE - 1, Integer.MAX_VALUE};
    /** 7.3 million elements of at least one byte; what is made is a small part of it. */
    static final long MOST_BYTES_MADE = 1000000;

    public static void main(String[] args) throws Exception {
        int calls = 0;
        for (int state = 0; state < 4; state++) {
            for (Method m : LitByLosers.class.getDeclaredMethods()) {
                if (Modifier.isPublic(m.getModifiers())) calls += far(m, state);
            }
        }
        Due.due("calls from the far ends", calls > 10000 ? 1 : 0, 1);
        made();
        Due.finish("RoomTests");
    }

    static LitByLosers in(int state) {
        LitByLosers x = new LitByLosers();
        if (state == 0) return x;
        for (int i = 0; i < (state == 1 ? 1 : 4); i++) x.person(20 * i, 3 * i);
        for (int i = 0; i < (state == 1 ? 1 : 8); i++) x.dispute(100 * i + i);
        if (state == 3) {
            for (int i = 0; i < 4; i++) Due.text(x, "loses lamp other+1/0;fills around lit of size-9999*9999*who;night 60;");
            x.by(3);
            x.night(60);
            for (int i = 1; i < 9; i++) {
                x.street(i);
                x.verdict(i % 4, true);
                x.said(i % 8, i % 4, i);
            }
        }
        return x;
    }

    static int far(Method m, int state) throws Exception {
        LitByLosers x = in(state);
        Class<?>[] types = m.getParameterTypes();
        int rows = types.length == 0 ? 1 : types.length == 1 ? FAR.length : types.length == 2 ? FAR.length * FAR.length : 3000;
        for (int row = 0; row < rows; row++) {
            Object[] given = new Object[types.length];
            int from = types.length <= 2 ? row : row * 7919 % 68921;
            for (int i = 0; i < given.length; i++) {
                given[i] = types[i] == boolean.class ? (Object) (from % 2 == 0) : (Object) FAR[from % FAR.length];
                from = types.length <= 2 ? from / FAR.length : from / FAR.length + row * 13;
            }
            try {
                m.invoke(x, given);
            } catch (InvocationTargetException e) {
                Due.due(m.getName() + java.util.Arrays.toString(given) + " threw " + e.getCause(), 1, 0);
                return rows;
            }
        }
        return rows;
    }

    /** The dearest calls, 512 in all, on one object. */
    static void made() {
        com.sun.management.ThreadMXBean threads = (com.sun.management.ThreadMXBean) ManagementFactory.getThreadMXBean();
        long id = Thread.currentThread().getId();
        long before = threads.getThreadAllocatedBytes(id);
        LitByLosers x = in(3);
        for (int i = 0; i < 30; i++) {
            x.back();
            x.feed(0x6E696768, 0x7420323B, 0x20202020, 0x20202020, 0x20202020);
            x.text();
            x.played(0);
            x.image();
            x.years(i, 40);
            x.night(60);
            x.foretold(60, 1);
            x.bill(255, -1);
            x.game(true);
            x.dark(6, false);
            x.undo();
        }
        long made = threads.getThreadAllocatedBytes(id) - before;
        System.out.println("a run makes " + made + " bytes");
        Due.due("bytes made: " + made, made <= MOST_BYTES_MADE ? 1 : 0, 1);
    }
}
