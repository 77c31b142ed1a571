import java.lang.reflect.InvocationTargetException;
import java.lang.reflect.Method;
import java.lang.reflect.Modifier;
import java.util.ArrayList;
import java.util.Arrays;
import java.util.Comparator;
import java.util.List;
import java.util.Random;

/** No call throws, whatever its arguments, in whatever state: all calls with numbers at and beside their edges. */
public final class AnyArgumentsTest {
    private static final int[] NUMBERS = {Integer.MIN_VALUE, Integer.MIN_VALUE + 1, -61, -14, -13, -12, -11, -4, -3,
        -2, -1, 0, 0, 1, 1, 2, 2, 3, 3, 4, 5, 6, 7, 8, 9, 10, 11, 12, 13, 19, 20, 21, 31, 32, 33, 59, 60, 61, 63, 64,
        127, 128, 199, 200, 201, 255, 256, 4095, 4096, 32767, 32768, 65535, 65536, 1 << 30, Integer.MAX_VALUE - 1,
        Integer.MAX_VALUE};
    private static int wrong = 0;

    private static List<Method> calls() {
        List<Method> found = new ArrayList<>();
        for (Method m : LinesTouched.class.getDeclaredMethods())
            if (Modifier.isPublic(m.getModifiers())) found.add(m);
        found.sort(Comparator.comparing(Method::getName));
        return found;
    }

    private static Object[] some(Random chance, Method m) {
        Object[] args = new Object[m.getParameterCount()];
        for (int i = 0; i < args.length; i++) {
            boolean small = chance.nextInt(3) > 0;
            args[i] = small ? chance.nextInt(6) : NUMBERS[chance.nextInt(NUMBERS.length)];
        }
        // the plain model is slow with many points
        if (m.getName().equals("deal") && (int) args[0] > 8) args[0] = 13;
        return args;
    }

    private static void text(Random chance, LinesTouched x, PlainModel y) {
        int open = 0;
        for (int i = 0; i < 40; i++) {
            char c = "(()) 5".charAt(chance.nextInt(6));
            if (c == '(' && i > 25 || c == ')' && open <= 1) continue;
            open += c == '(' ? 1 : c == ')' ? -1 : 0;
            x.feed(c, 1);
            y.feed(c, 1);
        }
        for (; open > 0; open--) {
            x.feed(')', 1);
            y.feed(')', 1);
        }
    }

    private static void run(int number, List<Method> calls, List<Method> plainly) throws IllegalAccessException {
        Random chance = new Random(number);
        LinesTouched x = new LinesTouched();
        PlainModel y = new PlainModel();
        StringBuilder told = new StringBuilder();
        for (int i = 0; i < 400; i++) {
            int which = chance.nextInt(calls.size());
            Method m = calls.get(which);
            if (m.getName().equals("point") && x.count(0) >= 7) continue;
            Object[] args = some(chance, m);
            if (m.getName().equals("text")) text(chance, x, y);
            told.append(m.getName()).append(Arrays.toString(args)).append('\n');
            try {
                Object got = m.invoke(x, args);
                Object want = plainly.get(which).invoke(y, args);
                if (got.equals(want)) continue;
                System.out.println("any arguments: run " + number + ":\n" + told + "answered " + got + ", due " + want);
            } catch (InvocationTargetException e) {
                System.out.println("any arguments: run " + number + ":\n" + told + "threw " + e.getCause());
            }
            wrong++;
            return;
        }
    }

    public static void main(String[] args) throws ReflectiveOperationException {
        int runs = args.length > 0 ? Integer.parseInt(args[0]) : 300;
        List<Method> calls = calls();
        List<Method> plainly = new ArrayList<>();
        for (Method m : calls) plainly.add(PlainModel.class.getDeclaredMethod(m.getName(), m.getParameterTypes()));
        for (int i = 0; i < runs && wrong < 5; i++) run(i, calls, plainly);
        System.out.println("any arguments: " + (wrong == 0 ? "none threw, all answers alike" : wrong + " runs failed"));
        if (wrong != 0) System.exit(1);
    }
}
