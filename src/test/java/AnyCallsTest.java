import java.lang.reflect.InvocationTargetException;
import java.lang.reflect.Method;
import java.lang.reflect.Modifier;
import java.util.Arrays;
import java.util.Comparator;
import java.util.NoSuchElementException;
import java.util.Random;

/** Any calls with any arguments: only about throws, and the same calls always answer the same. */
public final class AnyCallsTest {
    private static final String[] TEXTS = {
        "g 1;l;p 2 40;w 5;l", "(g 1;l;g 2;l;p 0 90)3;w 30", "p 3 5;p 1 20;p 2 30", "l;w 1;(l)9", "k=3&h<6?n;w>4?t;n>1?r",
        "e>1?t;t>30?r;w>1?n", "c*100+y;5", "m>0?7+m-x;!c=1 & y<5 ? [c+1]*2;t*50-a*20+1"};

    public static void main(String[] args) throws IllegalAccessException {
        Method[] calls = calls();
        Due.due("methods of the face", calls.length, 57);
        for (int seed = 0; seed < 480; seed++) {
            run(calls, new Random(seed), new CountyWatch(), new CountyWatch());
        }
        Due.finish("AnyCallsTest");
    }

    private static Method[] calls() {
        Method[] own = CountyWatch.class.getDeclaredMethods();
        return Arrays.stream(own).filter(m -> Modifier.isPublic(m.getModifiers()))
            .sorted(Comparator.comparing(Method::getName)).toArray(Method[]::new);
    }

    private static void run(Method[] calls, Random random, CountyWatch x, CountyWatch y) throws IllegalAccessException {
        // An object is promised 512 calls; a text takes several.
        for (int i = 0; i < 310; i++) {
            Method call = calls[random.nextInt(calls.length)];
            if (random.nextInt(8) == 0) {
                String text = TEXTS[random.nextInt(TEXTS.length)];
                Due.due("put", Due.put(x, text), Due.put(y, text));
                x.beat();
                y.beat();
                continue;
            }
            Object[] arguments = new Object[call.getParameterCount()];
            for (int k = 0; k < arguments.length; k++) {
                boolean flag = call.getParameterTypes()[k] == boolean.class;
                arguments[k] = flag ? (Object) random.nextBoolean() : (Object) number(random);
            }
            long answer = answer(call, x, arguments);
            Due.due(call.getName() + Arrays.toString(arguments), answer(call, y, arguments), answer);
        }
        for (int what = 0; what <= 18; what++) {
            Due.due("count", x.count(what), y.count(what));
        }
    }

    private static int number(Random random) {
        switch (random.nextInt(12)) {
            case 0:
                return random.nextInt();
            case 1:
                return random.nextBoolean() ? Integer.MIN_VALUE : Integer.MAX_VALUE;
            case 2:
                return -1 - random.nextInt(3);
            case 3:
                return random.nextInt(1600);
            case 4:
                return random.nextInt(30001);
            case 5:
                return random.nextInt(256);
            default:
                return random.nextInt(1 + random.nextInt(16));
        }
    }

    private static long answer(Method call, CountyWatch x, Object[] arguments) throws IllegalAccessException {
        try {
            Object got = call.invoke(x, arguments);
            return got instanceof Integer ? (Integer) got : got instanceof Boolean ? ((Boolean) got ? 1 : 0) : 7;
        } catch (InvocationTargetException e) {
            boolean fine = call.getName().equals("about") && e.getCause() instanceof NoSuchElementException;
            Due.due(call.getName() + Arrays.toString(arguments) + " throws " + e.getCause(), fine, true);
            return Long.MIN_VALUE;
        }
    }
}
