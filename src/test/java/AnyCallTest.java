import java.lang.reflect.Method;
import java.util.ArrayList;
import java.util.Comparator;
import java.util.List;
import java.util.Random;

/** No call throws, whatever its arguments, in whatever state; what a run makes keeps within its room. */
public final class AnyCallTest {
    private static final int[] EDGES = {Integer.MIN_VALUE, Integer.MIN_VALUE + 1, -1_000_000, -65536, -256, -64, -9, -8, -7, -6, -5, -4, -3, -2, -1,
        0, 1, 2, 3, 4, 5, 6, 7, 8, 9, 10, 11, 12, 15, 16, 20, 21, 60, 61, 63, 64, 99, 100, 255, 256, 399, 400, 401, 999, 1000, 1001, 9999, 10000, 99999,
        100000, 1_000_000, 1_000_001, 1 << 30, Integer.MAX_VALUE - 1, Integer.MAX_VALUE};
    // far below the room of 7.3 million elements: fields, elements, heads of objects
    private static final long MOST_BYTES = 4_000_000L;

    public static void main(String[] args) throws Exception {
        List<Method> methods = new ArrayList<>();
        for (Method m : SplitFares.class.getDeclaredMethods()) {
            if (java.lang.reflect.Modifier.isPublic(m.getModifiers())) {
                methods.add(m);
            }
        }
        methods.sort(Comparator.comparing(Method::getName));
        for (int seed = 0; seed < 300; seed++) {
            anyCalls(new Random(seed), methods);
        }
        room();
        System.out.println("AnyCallTest: no call throws");
    }

    private static void anyCalls(Random dice, List<Method> methods) throws Exception {
        SplitFares x = new SplitFares();
        Texts texts = new Texts(dice);
        for (int n = 0; n < 700; n++) {
            int r = dice.nextInt(10);
            if (r == 0) {
                x.train(dice.nextInt(256), dice.nextInt(2), dice.nextInt(24));
            } else if (r == 1) {
                boolean orders = dice.nextInt(3) > 0;
                Due.tape(x, texts.text(orders));
                int told = orders ? x.orders() : x.law();
                x.force(told);
            } else if (r == 2) {
                x.buy(dice.nextInt(2), dice.nextInt(8), dice.nextInt(8));
            } else {
                Method m = methods.get(dice.nextInt(methods.size()));
                Object[] given = new Object[m.getParameterCount()];
                for (int i = 0; i < given.length; i++) {
                    given[i] = dice.nextInt(3) == 0 ? dice.nextInt(9) - 1 : EDGES[dice.nextInt(EDGES.length)];
                }
                m.invoke(x, given);
            }
        }
    }

    /** The dearest calls, 512 of them: LAWS read, ORDERS run, ways asked for. */
    private static void room() {
        com.sun.management.ThreadMXBean bean = (com.sun.management.ThreadMXBean) java.lang.management.ManagementFactory.getThreadMXBean();
        long[] bytes = new long[2];
        for (int round = 0; round < 2; round++) {
            long before = bean.getCurrentThreadAllocatedBytes();
            SplitFares x = new SplitFares();
            x.train(255, 1, 8);
            x.train(255, 0, 9);
            x.image(0);
            for (int n = 0; n < 170; n++) {
                x.feed(0x62617273, 0x20202020, 0x20202020, 0x20202020, 0x20202020);
                x.law();
                if (n % 6 == 5) {
                    x.back(0);
                }
                x.months(n, 60);
            }
            bytes[round] = bean.getCurrentThreadAllocatedBytes() - before;
        }
        System.out.println("AnyCallTest: a dear run makes " + bytes[1] + " bytes");
        if (bytes[1] > MOST_BYTES) {
            System.out.println("AnyCallTest: a run makes more than " + MOST_BYTES);
            System.exit(1);
        }
    }
}
