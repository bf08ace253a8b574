import java.lang.management.ManagementFactory;
import java.lang.reflect.InvocationTargetException;
import java.lang.reflect.Method;
import java.lang.reflect.Modifier;
import java.util.ArrayList;
import java.util.Comparator;
import java.util.List;

/** No call throws, whatever its arguments and the state; and no run of calls takes much room. */
public final class AnyArgumentsTest {
    private static final Due due = new Due("AnyArgumentsTest");
    private static final int[] ODD = {Integer.MIN_VALUE, Integer.MIN_VALUE + 1, -65536, -1000, -100, -41, -9, -8, -4, -3,
        -2, -1, 0, 1, 2, 3, 4, 5, 6, 7, 8, 9, 10, 11, 12, 19, 20, 31, 32, 39, 40, 41, 55, 63, 64, 65, 99, 100, 127, 128,
        255, 256, 511, 512, 999, 9999, 99999, 100000, 65535, 1 << 30, Integer.MAX_VALUE - 1, Integer.MAX_VALUE};
    private static long lot = 7;

    private static int lot(int many) {
        lot = lot * 6364136223846793005L + 1442695040888963407L;
        return (int) ((lot >>> 33) % many);
    }

    private static List<Method> face() {
        List<Method> methods = new ArrayList<>();
        for (Method method : EveryMapWrong.class.getDeclaredMethods()) {
            if (Modifier.isPublic(method.getModifiers())) {
                methods.add(method);
            }
        }
        methods.sort(Comparator.comparing(Method::getName));
        return methods;
    }

    private static Object argument(Class<?> type) {
        int small = lot(3) > 0 ? lot(10) : ODD[lot(ODD.length)];
        if (type == long.class) {
            String signs = "may harm price;();+-*<=not and or a b c d far worlds 1 22 333";
            long w = 0;
            for (int i = 0, at = lot(signs.length()); i < 8; i++) {
                w = w << 8 | signs.charAt((at + i) % signs.length());
            }
            return w;
        }
        return small;
    }

    private static void call(EveryMapWrong x, Method method) throws IllegalAccessException {
        Object[] arguments = new Object[method.getParameterCount()];
        for (int i = 0; i < arguments.length; i++) {
            arguments[i] = argument(method.getParameterTypes()[i]);
        }
        try {
            method.invoke(x, arguments);
        } catch (InvocationTargetException e) {
            due.is(method.getName() + java.util.Arrays.toString(arguments) + " threw " + e.getCause(), 0, 1);
        }
    }

    private static void neverThrows() throws IllegalAccessException {
        List<Method> methods = face();
        for (int run = 0; run < 400; run++) {
            EveryMapWrong x = new EveryMapWrong();
            for (int calls = 0; calls < 600; calls++) {
                Method method = methods.get(lot(methods.size()));
                // A town that changes and maps that go all the time would leave little to ask about.
                if (!method.getName().matches("town|drop|back") || lot(4) == 0) {
                    call(x, method);
                }
            }
        }
        due.is("calls that threw", 0, 0);
    }

    /** A town with all that there can be at most, of which each call has most to do. */
    private static EveryMapWrong full() {
        EveryMapWrong x = new EveryMapWrong();
        x.town(9);
        for (int s = 0; s < 12; s++) {
            x.street(s % 6, (s + 1 + s / 6) % 6, s % 9, 1 + s);
        }
        for (int g = 0; g < 6; g++) {
            x.goer(10 * g + (g + 3) % 6);
        }
        for (int m = 0; m < 8; m++) {
            x.map(4, m, 0, 9);
        }
        x.sheet(0, 2, 40);
        return x;
    }

    private static int ask(EveryMapWrong x, int what) {
        switch (what) {
            case 0: return x.none();
            case 1: return x.many();
            case 2: return x.enough(3);
            case 3: return x.buy(9999, 0);
            case 4: return x.put(511, 0);
            case 5: return x.trick(511, 3, 0);
            case 6: return x.looks();
            case 7: return x.next(0);
            case 8: return x.soon(3);
            case 9: return x.step(3, 511);
            case 10: return x.worth(3);
            case 11: return x.years(3, 1);
            case 12: return x.tree() + x.drawnFrom(7);
            case 13: return x.sure(2) + x.world(300) + x.judge(5) + x.join();
            case 14: return x.image() + x.back() + x.told(3, 1) + x.slips(3, 5, 1) + x.over(2, 3, 0);
            case 15: return x.trip(3, 3, 511) + x.way(3, 511) + x.safe(3);
            case 16: return x.sheet(1, 2, 40) + x.copy(0, 0, 1, 0, 40) + x.cell(1, 3, 4) + x.taken(13, 0);
            case 17: return x.drop() + x.mapsBy(0, 2, 0, 8);
            default: return x.feed(97, 1) + x.text();
        }
    }

    private static void takesLittleRoom() {
        com.sun.management.ThreadMXBean bean = (com.sun.management.ThreadMXBean) ManagementFactory.getThreadMXBean();
        long thread = Thread.currentThread().getId();
        for (int what = 0; what <= 18; what++) {
            EveryMapWrong x = full();
            if (what >= 6 && what <= 9) {
                for (int c = 0; c < 7; c++) {
                    x.look(c, 1);
                }
            }
            ask(x, what);
            long before = bean.getThreadAllocatedBytes(thread);
            for (int calls = 0; calls < 512; calls++) {
                ask(x, what);
            }
            long each = (bean.getThreadAllocatedBytes(thread) - before) / 512;
            due.isTrue("room that calls " + what + " take, each: " + each, each < 300);
        }
    }

    public static void main(String[] args) throws IllegalAccessException {
        neverThrows();
        takesLittleRoom();
        due.end();
    }
}
