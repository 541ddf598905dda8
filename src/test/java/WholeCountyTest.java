import java.lang.reflect.InvocationTargetException;
import java.lang.reflect.Method;
import java.util.Arrays;
import java.util.Map;
import java.util.NoSuchElementException;
import java.util.Random;
import java.util.TreeMap;

/** Any runs of calls, each answered by the class and by the second telling of the whole document, PlainCounty. */
public final class WholeCountyTest {
    private static final int RUNS = 500;
    private static final int MOST_CALLS = 512;
    private static final long THROWN = Long.MIN_VALUE;
    /**
     * How often a call comes, its name, and what it is told: P a PLACE, M a CONSTABLE, B a BEAT, R a ROW, S a SIGHTING, K a CASE,
     * L a LINE, G a LOST good, W a WATCH, X some BEATS, Q a MINUTE up to NOW, V one near NOW, D a DAY, N a number of five marks,
     * Z bits of FACTS, ? yes or no; 3-9 a number of these.
     */
    private static final String[] CALLS = {
        "6 path P P 1-12", "3 walk P P", "5 constable 1-4 0-40 P", "1 feed 0-9999 0-9999 0-9999 0-9999 0-9999", "1 end 0-30",
        "1 fault 0-2", "1 beat", "3 beaten B 0-1", "34 begin M B", "9 draw M P V", "6 ill M ?", "60 tick 0-25", "5 tick 0-1500",
        "45 about M 0-8", "12 was M Q", "30 point R Q 0-4", "14 cause R 1-9", "6 causes 1-9 Q", "20 find 0-4 P Q V 1-9",
        "1 act D", "3 force D Q", "20 sighting S 0-5", "8 should S Q", "4 heard Q", "3 open 0-4", "5 need 0-4 Z", "3 want 0-7 1-3",
        "30 state K 0-3 0-6 ?", "2 withdraw 0-15", "8 fact K 0-3 Q", "14 cased K Q 0-4", "18 story K Z Z", "14 next K",
        "4 good ? N", "2 least 1-5", "3 joining", "3 joined G", "3 rivals G", "3 sure G", "4 watch P 0-40 0-300", "5 sees B W",
        "3 safe X", "4 share X B", "6 fair P V 1-2", "1 fair P V 3-3", "6 lending 0-1",
        "14 lent M", "3 fairs", "1 pay D", "4 rank M 1-4 D",
        "4 ranked M D Q", "9 paid M D Q", "4 book", "12 line L 0-3", "8 mark 0-3 M 0-10",
        "12 mark 0-1 M 0-10", "3 size 1-3", "1 size 1-12", "8 habit 0-1 0-1", "2 habit 0-3 0-3",
        "8 complain M P Q Q", "8 count 0-18", "14 TEXT 0-2"};
    private static final Map<String, Integer> TAKEN = new TreeMap<>();

    private final Random random;
    private final CountyWatch x = new CountyWatch();
    private final PlainCounty plain = new PlainCounty();
    private final int[] weights = new int[CALLS.length];
    private final int seed;
    private int calls;

    private WholeCountyTest(int seed) {
        this.seed = seed;
        random = new Random(seed);
        for (int i = 0; i < CALLS.length; i++) {
            int often = Integer.parseInt(CALLS[i].substring(0, CALLS[i].indexOf(' ')));
            weights[i] = often * new int[] {0, 1, 2, 6}[random.nextInt(4)];
        }
    }

    public static void main(String[] args) throws IllegalAccessException {
        for (int seed = 0; seed < RUNS; seed++) {
            WholeCountyTest run = new WholeCountyTest(seed);
            run.setUp();
            while (run.calls < MOST_CALLS - 20) {
                run.callSomething();
            }
        }
        for (Method call : CountyWatch.class.getDeclaredMethods()) {
            boolean asked = !java.lang.reflect.Modifier.isPublic(call.getModifiers()) || TAKEN.getOrDefault(call.getName(), 0) > 20;
            Due.due(call.getName() + " was often taken", asked, true);
        }
        Due.finish("WholeCountyTest");
    }

    private void setUp() throws IllegalAccessException {
        for (int i = 0; i < 4; i++) {
            call("path", place(), place(), 1 + random.nextInt(12));
        }
        for (int i = random.nextInt(4); i >= 0; i--) {
            call("constable", 1 + random.nextInt(4), random.nextInt(41), place());
        }
        for (int i = 0; i < 6; i++) {
            call("find", random.nextInt(5), place(), random.nextInt(9), 300 + random.nextInt(3000), 1 + random.nextInt(9));
        }
        for (int sort : new int[] {0, 0, 0, 1, 2}) {
            tellText(sort);
        }
    }

    private int place() {
        return random.nextInt(9) == 0 ? random.nextInt(16) : random.nextInt(5);
    }

    private void callSomething() throws IllegalAccessException {
        int all = Arrays.stream(weights).sum();
        int at = random.nextInt(all);
        int i = 0;
        for (; at >= weights[i]; i++) {
            at -= weights[i];
        }
        String[] words = CALLS[i].split(" ");
        if (words[1].equals("TEXT")) {
            tellText(random.nextInt(3));
            return;
        }
        // The second telling tries all joinings and all lendings: few goods and few men.
        boolean tooMany = words[1].equals("good") && plain.count(11) + plain.count(12) >= 9;
        if (tooMany || words[1].equals("constable") && plain.count(2) >= 6) {
            weights[i] = 0;
            return;
        }
        Object[] told = new Object[words.length - 2];
        for (int k = 0; k < told.length; k++) {
            told[k] = argument(words[k + 2]);
        }
        call(words[1], told);
    }

    private int upTo(int many) {
        return random.nextInt(Math.max(1, many));
    }

    private Object argument(String sort) {
        if (sort.equals("?")) {
            return random.nextBoolean();
        }
        if (random.nextInt(60) == 0) {
            int[] odd = {-1, -2, 16, 256, 31, Integer.MAX_VALUE, Integer.MIN_VALUE, random.nextInt(), plain.now + 1, random.nextInt(64)};
            return odd[random.nextInt(odd.length)];
        }
        int dash = sort.indexOf('-');
        if (dash > 0) {
            int from = Integer.parseInt(sort.substring(0, dash));
            return from + random.nextInt(Integer.parseInt(sort.substring(dash + 1)) - from + 1);
        }
        return number(sort.charAt(0));
    }

    private int number(char sort) {
        return switch (sort) {
            case 'P' -> place();
            case 'M' -> upTo(plain.count(2));
            case 'B' -> upTo(plain.count(3));
            case 'R' -> Math.max(0, plain.count(4) - 1 - upTo(Math.min(20, plain.count(4))));
            case 'S' -> upTo(plain.count(8));
            case 'K' -> upTo(Math.min(3, plain.count(9)));
            case 'L' -> upTo(plain.count(16));
            case 'G' -> upTo(plain.count(11));
            case 'W' -> upTo(plain.count(13));
            case 'X' -> 1 + upTo((1 << plain.count(3)) - 1);
            case 'Q' -> random.nextBoolean() ? upTo(plain.now + 1) : Math.max(0, plain.now - upTo(40));
            case 'V' -> plain.now + upTo(random.nextInt(4) == 0 ? 400 : 60);
            case 'D' -> random.nextInt(5) == 0 ? random.nextInt(31) : upTo(2 + plain.now / 1440);
            case 'N' -> (1 + upTo(2)) * 10000 + upTo(2) * 1000 + upTo(2) * 100 + upTo(2) * 10 + upTo(2);
            default -> random.nextInt(16) & random.nextInt(16);
        };
    }

    /** A text that was grown comes to the TAPE and is told; now and then one with a FAULT. */
    private void tellText(int sort) throws IllegalAccessException {
        String letters = sort == 1 ? "kwphdcnet" : "cymxta";
        PlainTexts texts = new PlainTexts(random, letters);
        String text = sort == 0 ? growBeat(3, 1) : sort == 1 ? texts.act().text() : texts.pay().text();
        if (text.length() > 160) {
            return;
        }
        if (random.nextInt(20) == 0) {
            int at = random.nextInt(text.length());
            text = text.substring(0, at) + "#;(5 )=l".charAt(random.nextInt(8)) + text.substring(at + 1);
        }
        if (plain.count(18) > 0) {
            call("end", 0);
        }
        for (int i = 0; i < text.length(); i += 20) {
            Object[] five = {0, 0, 0, 0, 0};
            for (int k = i; k < Math.min(text.length(), i + 20); k++) {
                five[(k - i) / 4] = (Integer) five[(k - i) / 4] | text.charAt(k) << (24 - 8 * ((k - i) % 4));
            }
            call("feed", five);
        }
        call("fault", sort);
        if (sort == 0) {
            call("beat");
        } else {
            call(sort == 1 ? "act" : "pay", random.nextInt(3) == 0 ? number('D') : 0);
        }
    }

    private String growBeat(int deep, int least) {
        StringBuilder text = new StringBuilder();
        for (int i = least + random.nextInt(3); i >= 0; i--) {
            switch (random.nextInt(deep > 0 ? 6 : 5)) {
                case 0 -> text.append("g ").append(place());
                case 1 -> text.append("w").append(1 + random.nextInt(random.nextInt(5) == 0 ? 240 : 9));
                case 2 -> text.append("p ").append(place()).append("  ").append(random.nextInt(random.nextInt(5) == 0 ? 1441 : 60));
                case 5 -> text.append("(").append(growBeat(deep - 1, 0)).append(") ").append(1 + random.nextInt(4));
                default -> text.append("l");
            }
            text.append(i > 0 ? random.nextInt(9) == 0 ? " ; " : ";" : "");
        }
        return text.toString();
    }

    private void call(String name, Object... told) throws IllegalAccessException {
        calls++;
        long want = answer(plain, name, told);
        long got = answer(x, name, told);
        boolean refused = want == THROWN || want == -1 || want == PlainCounty.HIDDEN;
        TAKEN.merge(name, refused ? 0 : 1, Integer::sum);
        Due.due("run " + seed + ", call " + calls + ": " + name + Arrays.toString(told), got, want);
    }

    private static long answer(Object of, String name, Object[] told) throws IllegalAccessException {
        for (Method method : of.getClass().getDeclaredMethods()) {
            if (method.getName().equals(name) && takes(method, told)) {
                return answer(of, method, told);
            }
        }
        throw new IllegalArgumentException(name);
    }

    private static boolean takes(Method method, Object[] told) {
        Class<?>[] types = method.getParameterTypes();
        boolean fits = types.length == told.length;
        for (int i = 0; fits && i < told.length; i++) {
            fits = types[i] == (told[i] instanceof Boolean ? boolean.class : int.class);
        }
        return fits;
    }

    private static long answer(Object of, Method method, Object[] told) throws IllegalAccessException {
        try {
            Object got = method.invoke(of, told);
            return got instanceof Integer ? (Integer) got : got instanceof Boolean ? ((Boolean) got ? 1 : 0) : 0;
        } catch (InvocationTargetException e) {
            Due.due(name(method, told) + " throws " + e.getCause(), e.getCause() instanceof NoSuchElementException, true);
            return THROWN;
        }
    }

    private static String name(Method method, Object[] told) {
        return method.getDeclaringClass() + "." + method.getName() + Arrays.toString(told);
    }
}
