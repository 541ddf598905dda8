import java.util.Random;

/** Promises 25 to 33: cases, facts, statements and stories. */
public final class CasesTest {
    public static void main(String[] args) {
        bounds();
        facts();
        asKnown();
        whatCasesAre();
        withdrawals();
        stories();
        partings();
        for (int seed = 0; seed < 150; seed++) {
            againstPlainCount(new Random(seed));
        }
        Due.finish("CasesTest");
    }

    private static void bounds() {
        CountyWatch x = new CountyWatch();
        Due.due("need -1", x.need(-1, 0), false);
        Due.due("need 10", x.need(10, 0), false);
        Due.due("need 256", x.need(0, 256), false);
        Due.due("need -1", x.need(0, -1), false);
        Due.due("need 255", x.need(9, 255), true);
        Due.due("want 8", x.want(8, 1), false);
        Due.due("want -1", x.want(-1, 1), false);
        Due.due("want 0", x.want(0, 0), false);
        Due.due("want 4", x.want(0, 4), false);
        Due.due("want 3", x.want(7, 3), true);
        Due.due("want 1", x.want(7, 1), true);
        Due.due("need nothing", x.need(0, 0), true);
        Due.due("no case", x.state(0, 0, 0, true), -1);
        Due.due("no case", x.story(0, 0, 0), -1);
        Due.due("no case", x.next(0), -1);
        Due.due("no case", x.fact(0, 0, 0), -1);
        Due.due("no case", x.cased(0, 0, 0), -1);
        Due.due("open 10", x.open(10), -1);
        Due.due("open -1", x.open(-1), -1);
        for (int i = 0; i < 30; i++) {
            Due.due("open", x.open(i % 10), i);
        }
        Due.due("open 30", x.open(0), -1);
        Due.due("count(9)", x.count(9), 30);
        Due.due("fact 8", x.state(0, 8, 0, true), -1);
        Due.due("fact -1", x.state(0, -1, 0, true), -1);
        Due.due("witness 16", x.state(0, 0, 16, true), -1);
        Due.due("witness -1", x.state(0, 0, -1, true), -1);
        Due.due("case 30", x.state(30, 0, 0, true), -1);
        Due.due("case -1", x.state(-1, 0, 0, true), -1);
        for (int i = 0; i < 200; i++) {
            Due.due("state", x.state(i % 30, i % 8, i % 16, true), i);
        }
        Due.due("state 200", x.state(0, 0, 0, true), -1);
        Due.due("count(10)", x.count(10), 200);
        Due.due("fact(.., 8, ..)", x.fact(0, 8, 0), -1);
        Due.due("fact(.., -1, ..)", x.fact(0, -1, 0), -1);
        Due.due("cased, no such what", x.cased(0, 0, 5), -1);
        Due.due("cased, no such what", x.cased(0, 0, -1), -1);
        Due.due("withdraw 16", x.withdraw(16), -1);
        Due.due("withdraw -1", x.withdraw(-1), -1);
    }

    private static void facts() {
        CountyWatch x = new CountyWatch();
        x.open(0);
        x.open(0);
        x.want(3, 2);
        x.state(0, 3, 0, true);
        Due.due("one of two", x.fact(0, 3, 0), 0);
        x.state(0, 3, 0, true);
        Due.due("the same one twice", x.fact(0, 3, 0), 0);
        x.state(0, 3, 1, true);
        Due.due("two of two", x.fact(0, 3, 0), 1);
        Due.due("another case", x.fact(1, 3, 0), 0);
        Due.due("another fact", x.fact(0, 4, 0), 0);
        x.state(0, 3, 1, false);
        Due.due("its latest counts: doubt", x.fact(0, 3, 0), 3);
        x.state(0, 3, 0, false);
        Due.due("both no", x.fact(0, 3, 0), 2);
        x.want(3, 3);
        Due.due("want as told last", x.fact(0, 3, 0), 0);
        x.state(0, 3, 5, false);
        Due.due("three no", x.fact(0, 3, 0), 2);
        x.want(3, 1);
        Due.due("more than wanted", x.fact(0, 3, 0), 2);
    }

    private static void asKnown() {
        CountyWatch x = new CountyWatch();
        x.tick(5);
        x.open(4);
        x.tick(5);
        x.state(0, 0, 0, true);
        x.tick(5);
        x.state(0, 0, 0, false);
        x.tick(5);
        x.withdraw(0);
        x.tick(5);
        Due.due("not open by then", x.fact(0, 0, 4), -1);
        Due.due("nothing said", x.fact(0, 0, 9), 0);
        Due.due("yes", x.fact(0, 0, 10), 1);
        Due.due("yes", x.fact(0, 0, 14), 1);
        Due.due("no", x.fact(0, 0, 15), 2);
        Due.due("no", x.fact(0, 0, 19), 2);
        Due.due("withdrawn", x.fact(0, 0, 20), 0);
        Due.due("behind now", x.fact(0, 0, 26), -1);
        Due.due("ahead of all", x.fact(0, 0, -1), -1);
        x.need(4, 1);
        Due.due("not open by then", x.cased(0, 4, 0), -1);
        Due.due("behind now", x.cased(0, 26, 0), -1);
        Due.due("open", x.cased(0, 5, 0), 0);
        Due.due("ready", x.cased(0, 10, 0), 1);
        Due.due("fallen", x.cased(0, 15, 0), 2);
        Due.due("open again", x.cased(0, 20, 0), 0);
        Due.due("kind", x.cased(0, 20, 2), 4);
        Due.due("minute", x.cased(0, 20, 3), 5);
    }

    private static void whatCasesAre() {
        CountyWatch x = new CountyWatch();
        x.open(1);
        Due.due("without needs it is ready", x.cased(0, 0, 0), 1);
        Due.due("it lacks nothing", x.cased(0, 0, 1), 0);
        x.need(1, 0b10110);
        Due.due("open", x.cased(0, 0, 0), 0);
        Due.due("lacks", x.cased(0, 0, 1), 0b10110);
        x.state(0, 0, 0, false);
        Due.due("a fact that is not needed", x.cased(0, 0, 0), 0);
        x.state(0, 1, 0, true);
        x.state(0, 2, 0, true);
        x.state(0, 2, 1, false);
        Due.due("in doubt it lacks", x.cased(0, 0, 1), 0b10100);
        x.state(0, 4, 0, true);
        x.withdraw(1);
        Due.due("ready", x.cased(0, 0, 0), 1);
        Due.due("lacks", x.cased(0, 0, 1), 0);
        x.state(0, 4, 0, false);
        Due.due("fallen", x.cased(0, 0, 0), 2);
        Due.due("it lacks what is refuted", x.cased(0, 0, 1), 0b10000);
        x.need(1, 0b00110);
        Due.due("needs as told last", x.cased(0, 0, 0), 1);
        x.open(9);
        x.need(9, 0b10000000);
        Due.due("the highest kind and fact", x.cased(1, 0, 1), 0b10000000);
        x.state(1, 7, 15, true);
        Due.due("the highest witness", x.cased(1, 0, 0), 1);
        Due.due("withdraw the highest witness", x.withdraw(15), 1);
    }

    private static void withdrawals() {
        CountyWatch x = new CountyWatch();
        x.need(0, 0b11);
        for (int i = 0; i < 5; i++) {
            x.open(i == 4 ? 1 : 0);
        }
        x.state(0, 0, 3, true);
        x.state(1, 0, 3, true);
        x.state(1, 0, 4, true);
        x.state(2, 1, 3, false);
        x.state(3, 2, 3, true);
        x.state(4, 0, 3, true);
        Due.due("withdraw one who said nothing", x.withdraw(9), 0);
        Due.due("withdraw", x.withdraw(3), 2);
        Due.due("withdrawn already", x.withdraw(3), -1);
        Due.due("its word is refused", x.state(0, 0, 3, true), -1);
        Due.due("count(10)", x.count(10), 6);
    }

    private static void stories() {
        CountyWatch x = new CountyWatch();
        x.open(0);
        x.open(0);
        Due.due("bits", x.story(0, 256, 0), -1);
        Due.due("bits", x.story(0, 0, 256), -1);
        Due.due("bits", x.story(0, -1, 0), -1);
        Due.due("in both", x.story(0, 6, 4), -1);
        Due.due("no such case", x.story(2, 1, 2), -1);
        Due.due("story", x.story(0, 1, 2), 0);
        Due.due("story of another case", x.story(1, 0, 0), 0);
        x.tick(3);
        for (int i = 1; i < 6; i++) {
            Due.due("story", x.story(0, 255 & ~(1 << i), 1 << i), i);
        }
        Due.due("story 6", x.story(0, 1, 2), -1);
        Due.due("told up to 2", x.cased(0, 2, 4), 1);
        Due.due("told up to 3", x.cased(0, 3, 4), 6);
        x.tick(1);
        x.state(0, 1, 0, true);
        Due.due("what is not so is proved", x.cased(0, 4, 4), 4);
        Due.due("as known ahead", x.cased(0, 3, 4), 6);
        x.state(0, 1, 1, false);
        Due.due("in doubt all stand", x.cased(0, 4, 4), 6);
        x.withdraw(0);
        Due.due("what is so is refuted", x.cased(0, 4, 4), 2);
    }

    private static void partings() {
        CountyWatch x = new CountyWatch();
        x.open(0);
        Due.due("no stories", x.next(0), -1);
        x.story(0, 0b001, 0b010);
        Due.due("one story", x.next(0), -1);
        x.story(0, 0b010, 0b001);
        Due.due("the lowest", x.next(0), 0);
        x.story(0, 0b010, 0b100);
        Due.due("the greater sum", x.next(0), 1);
        x.story(0, 0b101, 0b000);
        x.story(0, 0b000, 0b101);
        Due.due("the greatest lesser number", x.next(0), 0);
        x.state(0, 0, 0, true);
        Due.due("fact 0 is proved", x.next(0), 1);
        x.state(0, 0, 1, false);
        Due.due("fact 0 is in doubt", x.next(0), 0);
    }

    private static void againstPlainCount(Random random) {
        CountyWatch x = new CountyWatch();
        int[] needs = new int[10];
        for (int kind = 0; kind < 3; kind++) {
            needs[kind] = random.nextInt(256);
            x.need(kind, needs[kind]);
            x.open(kind);
        }
        int[] wants = new int[8];
        for (int f = 0; f < 8; f++) {
            wants[f] = 1 + random.nextInt(3);
            x.want(f, wants[f]);
        }
        int[][] told = new int[80][];
        int tellings = 0;
        for (int i = 0; i < 80; i++) {
            int witness = random.nextInt(16);
            if (random.nextInt(30) == 0) {
                x.withdraw(witness);
                told[tellings++] = new int[] {x.count(0), -1, 0, witness, 0};
                continue;
            }
            int of = random.nextInt(3);
            int fact = random.nextInt(8);
            boolean yes = random.nextInt(4) > 0;
            if (x.state(of, fact, witness, yes) != -1) {
                told[tellings++] = new int[] {x.count(0), of, fact, witness, yes ? 1 : 0};
            }
            x.tick(random.nextInt(2));
        }
        int now = x.count(0);
        for (int of = 0; of < 3; of++) {
            for (int k = 0; k < 8; k++) {
                int q = random.nextInt(now + 1);
                int lacks = 0;
                boolean fallen = false;
                for (int f = 0; f < 8; f++) {
                    int is = plainFact(told, tellings, of * 8 + f, q, wants[f]);
                    Due.due("fact", x.fact(of, f, q), is);
                    if ((needs[of] >> f & 1) == 1) {
                        lacks |= is == 1 ? 0 : 1 << f;
                        fallen |= is == 2;
                    }
                }
                Due.due("cased 0", x.cased(of, q, 0), fallen ? 2 : lacks == 0 ? 1 : 0);
                Due.due("cased 1", x.cased(of, q, 1), lacks);
            }
        }
    }

    private static int plainFact(int[][] told, int tellings, int which, int q, int want) {
        int yes = 0;
        int no = 0;
        for (int witness = 0; witness < 16; witness++) {
            int word = -1;
            boolean gone = false;
            for (int i = 0; i < tellings; i++) {
                if (told[i][0] <= q && told[i][3] == witness) {
                    gone |= told[i][1] == -1;
                    word = told[i][1] * 8 + told[i][2] == which && told[i][1] >= 0 ? told[i][4] : word;
                }
            }
            yes += word == 1 && !gone ? 1 : 0;
            no += word == 0 && !gone ? 1 : 0;
        }
        return yes > 0 && no > 0 ? 3 : yes >= want ? 1 : no >= want ? 2 : 0;
    }
}
