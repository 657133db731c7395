import java.lang.reflect.InvocationTargetException;
import java.lang.reflect.Method;
import java.util.Arrays;

/**
 * Every call with every mixture of odd numbers, on an empty town, a full one and one in between:
 * none throws, and what is refused changes nothing but STATUS.
 */
public final class ExtremesTest {
    private static final int[] ODD = {Integer.MIN_VALUE, -1000000007, -11, -4, -3, -2, -1, 0, 1, 5, 6, 7, 8, 9, 10, 30, 31,
        60, 61, 100, 150, 1000000, Integer.MAX_VALUE};
    private static final Check CHECK = new Check();

    private ExtremesTest() {
    }

    public static void main(String[] args) throws IllegalAccessException {
        for (Method m : KitchenSiege.class.getMethods()) {
            if (m.getDeclaringClass() == KitchenSiege.class) {
                CHECK.part(m.getName());
                for (int size = 0; size <= 2; size++) {
                    tryAll(m, size);
                }
            }
        }
        CHECK.part("calls behind the 512th");
        longRun();
        CHECK.end();
    }

    /** 0 an empty town, 1 one of three streets, 2 one with no room for more. */
    private static KitchenSiege ofSize(int size) {
        KitchenSiege x = new KitchenSiege();
        int streets = new int[] {0, 3, 8}[size];
        for (int i = 0; i < streets; i++) {
            x.street(i % 6, i % 3, 5);
            for (int b = 0; b < i; b++) {
                x.lane(i, b);
            }
            x.gate(i % 4, i);
        }
        for (int i = 0; i < new int[] {0, 2, 6}[size]; i++) {
            x.dish(i, 12 + 2 * i, i);
        }
        for (int i = 0; i < new int[] {0, 2, 6}[size]; i++) {
            x.note(0, i, 4 + i, i, i % 2);
        }
        for (int i = 0; i < new int[] {0, 70, 150}[size]; i++) {
            x.type(' ');
        }
        for (int i = 0; i < 5 * size; i++) {
            x.day(i % 2 == 0 ? -1 : 0);
        }
        return x;
    }

    private static void tryAll(Method m, int size) throws IllegalAccessException {
        int takes = m.getParameterCount();
        int mixtures = 1;
        for (int i = 0; i < takes; i++) {
            mixtures *= ODD.length;
        }
        // All mixtures of five numbers would be too many; 97 goes through all the first ones.
        int step = takes > 3 ? 97 : 1;
        KitchenSiege x = ofSize(size);
        for (int mixture = 0; mixture < mixtures; mixture += step) {
            Object[] a = new Object[takes];
            int left = mixture;
            for (int i = 0; i < takes; i++) {
                a[i] = ODD[left % ODD.length];
                left /= ODD.length;
            }
            if (m.getName().equals("dish") || m.getName().equals("street") || m.getName().equals("note")) {
                x = x.count(0) + x.count(1) + x.count(4) > 15 && size < 2 ? ofSize(size) : x;
            }
            tryOne(x, m, a);
        }
    }

    private static void tryOne(KitchenSiege x, Method m, Object[] a) throws IllegalAccessException {
        long before = x.digest();
        long refused = x.status(0) + x.status(1) + x.status(2);
        try {
            m.invoke(x, a);
        } catch (InvocationTargetException e) {
            CHECK.holds(m.getName() + Arrays.toString(a) + " throws nothing: " + e.getCause(), false);
            return;
        }
        if (x.status(0) + x.status(1) + x.status(2) > refused) {
            CHECK.due(m.getName() + Arrays.toString(a) + ", refused, changes", x.digest(), before);
        }
    }

    private static void longRun() {
        KitchenSiege x = ofSize(2);
        for (int i = 0; i < 5000; i++) {
            x.day(i % 7 - 1);
            x.falls(i % 6, i % 8);
            x.order(i % 8, 0);
            x.image(i % 2);
            x.type(59);
            x.from(1);
        }
        CHECK.due("what may be undone", x.count(5), 8);
        CHECK.due("bytes", x.count(6), 150);
    }
}
