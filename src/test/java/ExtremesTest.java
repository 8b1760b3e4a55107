import java.lang.reflect.InvocationTargetException;
import java.lang.reflect.Method;
import java.lang.reflect.Modifier;
import java.util.Random;

/** Any arguments in any state: nothing may throw, and what is refused or only asked changes nothing. */
public final class ExtremesTest {
    private static final int[] INTS = {Integer.MIN_VALUE, Integer.MIN_VALUE + 1, -100000, -3, -2, -1, 0, 1, 2, 3, 4, 5, 7, 8, 9, 10,
        11, 12, 15, 16, 17, 18, 31, 32, 33, 40, 41, 63, 99, 100, 200, 201, 300, 999, 1000, 1023, 1024, 4095, 4096, 9999, 10000,
        0x62656174, 0x20393b20, 1 << 30, Integer.MAX_VALUE - 1, Integer.MAX_VALUE};
    private static final java.util.Set<String> ASKING = java.util.Set.of("fault", "of", "ofSeat", "ofNote", "air", "coughs", "fell",
        "whoIsOut", "hiccupped", "seated", "ushers", "cannot", "shift", "inTime", "choir", "comes", "needed", "duel", "chairs",
        "whoseLaw", "starts", "about");

    private static Object argument(Class<?> type, Random random) {
        if (type == boolean.class) return random.nextBoolean();
        return random.nextInt(3) == 0 ? INTS[random.nextInt(INTS.length)] : random.nextInt(14) - 1;
    }

    private static String stateOf(BreatheAsOne x) {
        StringBuilder s = new StringBuilder();
        for (int i = 0; i < 12; i++) s.append(x.about(i)).append(' ');
        for (int i = 0; i < 10; i++) for (int w = 0; w < 7; w++) s.append(x.of(i, w)).append(' ');
        for (int i = 0; i < 10; i++) for (int w = 0; w < 3; w++) s.append(x.ofSeat(i, w)).append(' ');
        for (int i = 0; i < 20; i++) for (int w = 0; w < 2; w++) s.append(x.coughs(i, w)).append(' ');
        return s.append(x.fell()).append(' ').append(x.fault(0)).append(' ').append(x.fault(1)).toString();
    }

    public static void main(String[] args) throws IllegalAccessException {
        int calls = 0;
        for (int seed = 0; seed < 400; seed++) {
            Random random = new Random(seed);
            BreatheAsOne x = new BreatheAsOne();
            for (int i = 0; i < 500; i++) {
                for (Method m : BreatheAsOne.class.getDeclaredMethods()) {
                    if (!Modifier.isPublic(m.getModifiers()) || random.nextInt(40) != 0) continue;
                    Object[] with = new Object[m.getParameterCount()];
                    for (int k = 0; k < with.length; k++) with[k] = argument(m.getParameterTypes()[k], random);
                    String before = ASKING.contains(m.getName()) ? stateOf(x) : null;
                    try {
                        m.invoke(x, with);
                        calls++;
                    } catch (InvocationTargetException e) {
                        System.out.println(m.getName() + java.util.Arrays.toString(with) + " threw " + e.getCause());
                        System.exit(1);
                    }
                    if (before != null && !before.equals(stateOf(x))) {
                        System.out.println(m.getName() + java.util.Arrays.toString(with) + " changed something");
                        System.exit(1);
                    }
                }
            }
        }
        System.out.println(calls + " calls with any arguments threw nothing");
    }
}
