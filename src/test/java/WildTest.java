import java.lang.reflect.InvocationTargetException;
import java.lang.reflect.Method;
import java.util.Arrays;
import java.util.Comparator;
import java.util.Random;

/** Any numbers to any method, in any state: no call throws, and none runs on. */
public final class WildTest {
    private static final int OBJECTS = 60;
    private static final int[] FAR = {Integer.MIN_VALUE, Integer.MIN_VALUE + 1, -65536, -400, -7, -2, -1, 7, 8, 36, 63,
        64, 100, 200, 201, 255, 256, 400, 511, 512, 719, 720, 1000000, 1000001, 65536, 1 << 30, Integer.MAX_VALUE};

    public static void main(String[] args) throws IllegalAccessException {
        Method[] methods = Arrays.stream(LoopTables.class.getMethods())
                .filter(m -> m.getDeclaringClass() == LoopTables.class)
                .sorted(Comparator.comparing(Method::getName)).toArray(Method[]::new);
        for (int seed = 0; seed < OBJECTS; seed++) {
            Random random = new Random(seed);
            LoopTables x = new LoopTables();
            // From tame runs, which get far, to wild ones.
            int wildness = seed % 4 * 20;
            for (int call = 0; call < 512; call++) {
                Method method = methods[random.nextInt(methods.length)];
                Object[] given = new Object[method.getParameterCount()];
                for (int i = 0; i < given.length; i++) {
                    given[i] = random.nextInt(100) < wildness ? FAR[random.nextInt(FAR.length)] : random.nextInt(7);
                }
                try {
                    method.invoke(x, given);
                } catch (InvocationTargetException thrown) {
                    System.out.println("seed " + seed + ": " + method.getName() + Arrays.toString(given)
                            + " threw " + thrown.getCause());
                    System.exit(1);
                }
            }
        }
        System.out.println("no call threw");
    }
}
