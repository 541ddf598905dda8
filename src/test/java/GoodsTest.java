import java.util.Arrays;
import java.util.Random;

/** Promises 34 to 39: goods lost and found, against all JOININGS tried one by one. */
public final class GoodsTest {
    private static int[] lost;
    private static int[] found;
    private static int least;
    private static int best;
    private static int[] first;
    private static int[] choices;

    public static void main(String[] args) {
        bounds();
        leastAtFirst();
        likeness();
        rivals();
        Random random = new Random(11);
        for (int run = 0; run < 120; run++) {
            againstAllJoinings(random, run < 110 ? 5 : 8);
        }
        for (int run = 0; run < 40; run++) {
            asGoodsCome(random);
        }
        askedFirst();
        Due.finish("GoodsTest");
    }

    private static void bounds() {
        CountyWatch x = new CountyWatch();
        Due.due("nothing", x.joining(), 0);
        Due.due("joined, no such one", x.joined(0), -1);
        Due.due("marks", x.good(true, -1), -1);
        Due.due("marks", x.good(true, 100000), -1);
        for (int i = 0; i < 8; i++) {
            Due.due("lost", x.good(true, 99999), i);
            Due.due("found", x.good(false, 0), i);
        }
        Due.due("lost 8", x.good(true, 0), -1);
        Due.due("found 8", x.good(false, 0), -1);
        Due.due("count(11)", x.count(11), 8);
        Due.due("count(12)", x.count(12), 8);
        Due.due("least 0", x.least(0), false);
        Due.due("least 6", x.least(6), false);
        Due.due("least 1", x.least(1), true);
        Due.due("nothing is alike", x.joining(), 0);
        Due.due("joined -1", x.joined(-1), -1);
        Due.due("joined 8", x.joined(8), -1);
        Due.due("rivals -1", x.rivals(-1), -1);
        Due.due("rivals 8", x.rivals(8), -1);
        Due.due("sure -1", x.sure(-1), -1);
        Due.due("sure 8", x.sure(8), -1);
    }

    private static void leastAtFirst() {
        CountyWatch x = new CountyWatch();
        x.good(true, 12345);
        x.good(false, 12999);
        Due.due("two alike", x.joining(), 0);
        x.good(false, 12399);
        Due.due("three alike", x.joining(), 3);
        Due.due("three alike", x.joined(0), 1);
    }

    private static void likeness() {
        CountyWatch x = new CountyWatch();
        x.good(true, 7);
        x.good(false, 107);
        Due.due("zeros ahead are marks", x.joining(), 4);
        x.good(false, 70);
        Due.due("place by place", x.joined(0), 0);
        x.least(5);
        Due.due("least 5", x.joined(0), -1);
        x.good(false, 7);
        Due.due("all five", x.joined(0), 2);
    }

    private static void rivals() {
        CountyWatch x = new CountyWatch();
        x.good(true, 11111);
        x.good(true, 11111);
        x.good(false, 11111);
        Due.due("joined rather than not", x.joined(0), 0);
        Due.due("none for the other", x.joined(1), -1);
        Due.due("rivals", x.rivals(0), 1);
        Due.due("rivals", x.rivals(1), 1);
        Due.due("joined, or not", x.sure(0), 0);
        Due.due("joined, or not", x.sure(1), 0);
        x.good(false, 11111);
        Due.due("one of two", x.rivals(1), 3);
        Due.due("not to the same one", x.sure(0), 0);
        Due.due("the lower one", x.joined(0), 0);
    }

    private static void againstAllJoinings(Random random, int most) {
        CountyWatch x = new CountyWatch();
        lost = new int[1 + random.nextInt(most)];
        found = new int[1 + random.nextInt(most)];
        least = 1 + random.nextInt(4);
        for (int i = 0; i < lost.length; i++) {
            lost[i] = marks(random);
            x.good(true, lost[i]);
        }
        for (int i = 0; i < found.length; i++) {
            found[i] = marks(random);
            x.good(false, found[i]);
        }
        x.least(least);
        compare(x);
    }

    /** On one object, as goods come and LEAST is told anew. */
    private static void asGoodsCome(Random random) {
        CountyWatch x = new CountyWatch();
        lost = new int[0];
        found = new int[0];
        least = 3;
        for (int i = 0; i < 20; i++) {
            int kind = random.nextInt(3);
            if (kind == 0 && lost.length < 5) {
                lost = Arrays.copyOf(lost, lost.length + 1);
                lost[lost.length - 1] = marks(random);
                x.good(true, lost[lost.length - 1]);
            } else if (kind == 1 && found.length < 5) {
                found = Arrays.copyOf(found, found.length + 1);
                found[found.length - 1] = marks(random);
                x.good(false, found[found.length - 1]);
            } else {
                least = 1 + random.nextInt(5);
                x.least(least);
            }
            compare(x);
        }
    }

    /** Each call finds the BEST JOININGS for itself. */
    private static void askedFirst() {
        Due.due("joining first", threeGoods().joining(), 5);
        Due.due("joined first", threeGoods().joined(1), -1);
        Due.due("joined first", threeGoods().joined(0), 0);
        Due.due("rivals first", threeGoods().rivals(1), 1);
        Due.due("sure first", threeGoods().sure(1), 0);
        CountyWatch x = threeGoods();
        Due.due("not sure", x.sure(0), 0);
        x.good(true, 22222);
        Due.due("sure to be joined to none", x.sure(2), 1);
        x.good(false, 22222);
        Due.due("sure to be joined to one", x.sure(2), 1);
        Due.due("its rivals", x.rivals(2), 2);
    }

    private static CountyWatch threeGoods() {
        CountyWatch x = new CountyWatch();
        x.good(true, 11111);
        x.good(true, 11111);
        x.good(false, 11111);
        return x;
    }

    private static void compare(CountyWatch x) {
        best = -1;
        tryAll(0, 0, 0, new int[lost.length]);
        Due.due("joining", x.joining(), best);
        for (int i = 0; i < lost.length; i++) {
            Due.due("joined", x.joined(i), first[i]);
            Due.due("rivals", x.rivals(i), choices[i] & 255);
            Due.due("sure", x.sure(i), Integer.bitCount(choices[i]) == 1 ? 1 : 0);
        }
    }

    private static int marks(Random random) {
        int all = 0;
        for (int i = 0; i < 5; i++) {
            all = all * 10 + random.nextInt(3);
        }
        return all;
    }

    /** In the order of FIRST, so that the first of the best ones is FIRST. */
    private static void tryAll(int i, int used, int sum, int[] to) {
        if (i == lost.length) {
            if (sum > best) {
                best = sum;
                first = to.clone();
                choices = new int[lost.length];
            }
            for (int k = 0; sum == best && k < lost.length; k++) {
                choices[k] |= to[k] == -1 ? 256 : 1 << to[k];
            }
            return;
        }
        for (int f = 0; f < found.length; f++) {
            int like = 0;
            for (int ten = 1; ten < 100000; ten *= 10) {
                like += lost[i] / ten % 10 == found[f] / ten % 10 ? 1 : 0;
            }
            if ((used >> f & 1) == 0 && like >= least) {
                to[i] = f;
                tryAll(i + 1, used | 1 << f, sum + like, to);
            }
        }
        to[i] = -1;
        tryAll(i + 1, used, sum, to);
    }
}
