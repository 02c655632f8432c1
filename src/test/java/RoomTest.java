import com.sun.management.ThreadMXBean;
import java.lang.management.ManagementFactory;
import java.lang.reflect.InvocationTargetException;
import java.lang.reflect.Method;
import java.lang.reflect.Modifier;
import java.util.Random;

/** A run of 512 calls makes little, and no call throws, whatever its arguments are. */
public final class RoomTest {
    private static final int[] WILD = {Integer.MIN_VALUE, Integer.MIN_VALUE + 1, -1000000000, -64, -8, -2, -1, 0, 1,
        2, 3, 4, 5, 6, 7, 8, 14, 15, 16, 19, 20, 21, 31, 32, 33, 63, 64, 65, 99, 100, 101, 255, 300, 301, 999, 1000,
        1001, 1007, 1008, 2186, 2187, 9999, 1000000000, 1000000001, Integer.MAX_VALUE - 1, Integer.MAX_VALUE};

    private static ShownNot full() {
        ShownNot x = new ShownNot();
        Check.map(x, 7, "");
        Check.map(x, 7, "01 02 12");
        Check.map(x, 7, "01 02 03 12 13 23 45 46 56 04 15 26");
        Check.map(x, 7, "01 02 12 13 23 34 24 45 35 56 46");
        Check.show(x, "swap 6;ask pairs;judge a#b or x>y;");
        Check.show(x, "swap 6;once;judge a#b;");
        Check.show(x, "swap 3;ask lands;");
        Check.show(x, "judge 1=2;");
        for (int night = 0; night < 20; night++) {
            x.see(night, 6, night % 3);
        }
        return x;
    }

    private static void dearCalls(ShownNot x, int i) {
        int showing = i % 4;
        int map = i / 4 % 4;
        x.answer(map, i);
        x.turnings(map, map, 1);
        x.right(showing, map, 0);
        x.cheat(showing, map, 0);
        x.nights(showing, map, 1000000000);
        x.tells(showing, map, 2, 0);
        x.possible(showing, map, 0);
        x.alone(showing, map, 99, 100, 0);
        x.unlike(showing, map, 0, map, 0);
        x.mended(showing, map, 2, 0);
        x.locks(8);
        x.riddle(3);
        x.image();
        x.back();
        Check.show(x, "judge a*a+b*b-x*y#(1+a)*(1+b) and not a=b or x<=y;");
    }

    private static void littleIsMade() {
        ThreadMXBean threads = (ThreadMXBean) ManagementFactory.getThreadMXBean();
        ShownNot warm = full();
        dearCalls(warm, 1);
        long before = threads.getThreadAllocatedBytes(Thread.currentThread().getId());
        ShownNot x = full();
        for (int i = 0; i < 25; i++) {
            dearCalls(x, i);
        }
        long made = threads.getThreadAllocatedBytes(Thread.currentThread().getId()) - before;
        // Four bytes an element at least: 7.3 million would be above 29 million bytes.
        Check.due("bytes that a run makes: " + made, made < 1000000, true);
    }

    private static void wild(long seed) throws IllegalAccessException {
        Random random = new Random(seed);
        ShownNot x = seed % 3 == 0 ? new ShownNot() : full();
        Method[] methods = ShownNot.class.getDeclaredMethods();
        java.util.Arrays.sort(methods, java.util.Comparator.comparing(Method::getName));
        for (int call = 0; call < 480; call++) {
            Method method = methods[random.nextInt(methods.length)];
            if (!Modifier.isPublic(method.getModifiers())) {
                continue;
            }
            Object[] arguments = new Object[method.getParameterCount()];
            for (int i = 0; i < arguments.length; i++) {
                arguments[i] = random.nextInt(4) == 0 ? random.nextInt() : WILD[random.nextInt(WILD.length)];
            }
            String told = method.getName() + java.util.Arrays.toString(arguments);
            try {
                method.invoke(x, arguments);
                Check.due(told, true, true);
            } catch (InvocationTargetException thrown) {
                Check.due(told + " threw " + thrown.getCause(), true, false);
            }
        }
    }

    public static void main(String[] args) throws IllegalAccessException {
        littleIsMade();
        for (int seed = 0; seed < 200; seed++) {
            wild(seed);
        }
        Check.finish();
    }
}
