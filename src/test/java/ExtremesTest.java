import java.lang.reflect.InvocationTargetException;
import java.lang.reflect.Method;
import java.lang.reflect.Modifier;
import java.util.Random;

/** Rule 7: no call throws, for any arguments in any state. The seeds are fixed. */
final class ExtremesTest {
    private static final int[] ODD = {Integer.MIN_VALUE, Integer.MIN_VALUE + 1, -101, -14, -2, -1, 0, 1, 2, 3, 4, 5, 6,
        7, 10, 11, 15, 16, 22, 40, 41, 99, 100, 160, 255, 256, Integer.MAX_VALUE - 1, Integer.MAX_VALUE};
    private static final String LETTERS = "moves ugly minds look; place - (not) 9+*<=or and\n";

    public static void main(String[] args) throws IllegalAccessException {
        Checks checks = new Checks();
        for (int seed = 0; seed < 300; seed++) {
            go(new Random(seed), new PutOut(), checks);
        }
        checks.end();
    }

    private static void go(Random r, PutOut x, Checks checks) throws IllegalAccessException {
        Method[] methods = PutOut.class.getDeclaredMethods();
        java.util.Arrays.sort(methods, java.util.Comparator.comparing(Method::getName));
        for (int i = 0; i < 512; i++) {
            Method m = methods[r.nextInt(methods.length)];
            if (!Modifier.isPublic(m.getModifiers())) {
                continue;
            }
            Object[] args = new Object[m.getParameterCount()];
            for (int a = 0; a < args.length; a++) {
                args[a] = r.nextInt(4) == 0 ? ODD[r.nextInt(ODD.length)]
                        : m.getName().equals("feed") ? LETTERS.charAt(r.nextInt(LETTERS.length())) : r.nextInt(5);
                args[a] = args[a] instanceof Character c ? (int) c : args[a];
            }
            int thrown = 0;
            try {
                m.invoke(x, args);
            } catch (InvocationTargetException e) {
                thrown = 1;
            }
            checks.due(m.getName() + java.util.Arrays.toString(args) + " (1: it throws)", thrown, 0);
        }
    }
}
