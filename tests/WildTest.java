import java.lang.reflect.InvocationTargetException;
import java.lang.reflect.Method;
import java.util.Arrays;
import java.util.Comparator;
import java.util.List;

/** Calls with wild arguments, far more than 512 on each object: nothing is thrown but what the face lists. */
public final class WildTest {
    private static final int[] WILD = {Integer.MIN_VALUE, Integer.MIN_VALUE + 1, -2, -1, 16, 17, 50, 51, 100, 400, 7000, 12000,
        20000, 20001, 30000, 30001, 100000, Integer.MAX_VALUE - 1, Integer.MAX_VALUE};

    private static long seed = 99;

    private static int pick(int n) {
        seed = seed * 6364136223846793005L + 1442695040888963407L;
        return (int) ((seed >>> 33) % n);
    }

    private static int argument() {
        int odd = pick(12);
        return odd == 0 ? WILD[pick(WILD.length)] : odd < 8 ? pick(4) : pick(odd < 11 ? 16 : 8000);
    }

    public static void main(String[] args) throws IllegalAccessException {
        Method[] face = FosterHouse.class.getDeclaredMethods();
        face = Arrays.stream(face).filter(m -> m.getModifiers() == java.lang.reflect.Modifier.PUBLIC).toArray(Method[]::new);
        Arrays.sort(face, Comparator.comparing(Method::getName));
        int wrong = 0;
        for (int run = 0; run < 60; run++) {
            FosterHouse x = new FosterHouse();
            for (int at = 0; at < 4000; at++) {
                Method m = face[pick(face.length)];
                Object[] told = new Object[m.getParameterCount()];
                for (int i = 0; i < told.length; i++) {
                    told[i] = m.getParameterTypes()[i] == boolean.class ? (Object) (pick(2) == 0) : (Object) argument();
                }
                try {
                    m.invoke(x, told);
                } catch (InvocationTargetException e) {
                    if (!List.of(m.getExceptionTypes()).contains(e.getCause().getClass()) && wrong++ < 5) {
                        System.out.println(m.getName() + Arrays.toString(told) + " threw " + e.getCause());
                    }
                }
            }
        }
        System.out.println("60 wild runs, " + wrong + " wrong");
        if (wrong != 0) System.exit(1);
    }
}
