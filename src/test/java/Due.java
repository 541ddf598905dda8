import java.nio.charset.StandardCharsets;
import java.util.NoSuchElementException;

/** What all tests use: answers that are due, and texts put on the TAPE. */
final class Due {
    private static int asked = 0;
    private static int wrong = 0;

    private Due() {
    }

    static void due(String call, long got, long want) {
        asked++;
        if (got != want) {
            wrong++;
            if (wrong <= 40) {
                System.out.println(call + " answered " + got + ", due is " + want);
            }
        }
    }

    static void due(String call, boolean got, boolean want) {
        due(call, got ? 1 : 0, want ? 1 : 0);
    }

    /** Several answers in one row. */
    static void row(String call, int[] got, int... want) {
        due(call + " length", got.length, want.length);
        for (int i = 0; i < Math.min(got.length, want.length); i++) {
            due(call + " [" + i + "]", got[i], want[i]);
        }
    }

    static void throwsAbout(CountyWatch x, int constable, int what) {
        boolean threw = false;
        try {
            x.about(constable, what);
        } catch (NoSuchElementException e) {
            threw = true;
        }
        due("about(" + constable + ", " + what + ") throws", threw, true);
    }

    /** Puts a text behind what the TAPE has: what the last feed answered. */
    static int put(CountyWatch x, String text) {
        byte[] bytes = text.getBytes(StandardCharsets.ISO_8859_1);
        int answer = x.count(18);
        for (int i = 0; i < bytes.length; i += 20) {
            int[] five = new int[5];
            for (int k = 0; k < 20; k++) {
                int sign = i + k < bytes.length ? bytes[i + k] & 255 : 0;
                five[k / 4] |= sign << (24 - 8 * (k % 4));
            }
            answer = x.feed(five[0], five[1], five[2], five[3], five[4]);
        }
        return answer;
    }

    static int beat(CountyWatch x, String text) {
        x.end(0);
        put(x, text);
        return x.beat();
    }

    static int act(CountyWatch x, String text, int day) {
        x.end(0);
        put(x, text);
        return x.act(day);
    }

    static int pay(CountyWatch x, String text, int day) {
        x.end(0);
        put(x, text);
        return x.pay(day);
    }

    static int fault(String text, int sort) {
        CountyWatch x = new CountyWatch();
        put(x, text);
        return x.fault(sort);
    }

    /** Many MINUTES at once. */
    static void until(CountyWatch x, int minute) {
        for (int i = 0; i < 20 && x.count(0) < minute; i++) {
            x.tick(Math.min(1500, minute - x.count(0)));
        }
        due("tick until", x.count(0), minute);
    }

    static void finish(String name) {
        System.out.println(name + ": " + asked + " answers, " + wrong + " not as due");
        if (wrong != 0 || asked == 0) {
            System.exit(1);
        }
    }
}
