import java.util.Random;

/** Promises 5 to 9, and the FAULTS of promises 7, 20 and 48. */
public final class TextsTest {
    private static final Random RANDOM = new Random(7);

    public static void main(String[] args) {
        tape();
        beatFaults();
        beats();
        actFaults();
        payFaults();
        fullShelves();
        growing();
        Due.finish("TextsTest");
    }

    private static void tape() {
        CountyWatch x = new CountyWatch();
        Due.due("feed, highest first", x.feed(0x01020304, 0, 0x05000006, -1, 0), 10);
        Due.due("feed of nothing", x.feed(0, 0, 0, 0, 0), 10);
        feedInBounds();
        for (int i = 1; i <= 7; i++) {
            Due.due("feed", x.feed(-1, -1, -1, -1, -1), 10 + 20 * i);
        }
        Due.due("feed above 160", x.feed(-1, -1, -1, 0, 0), -1);
        Due.due("count(18) behind it", x.count(18), 150);
        Due.due("feed up to 160", x.feed(-1, -1, 0x01000001, 0, 0), 160);
        Due.due("feed of one more", x.feed(0, 0, 0, 0, 1), -1);
        Due.due("feed of none more", x.feed(0, 0, 0, 0, 0), 160);
        Due.due("end(-1)", x.end(-1), false);
        Due.due("end(161)", x.end(161), false);
        Due.due("end(160)", x.end(160), true);
        Due.due("end(3)", x.end(3), true);
        Due.due("end(4)", x.end(4), false);
        Due.due("count(18)", x.count(18), 3);
        x.end(0);
        Due.put(x, "l;g 16");
        Due.due("fault", x.fault(0), 5);
        x.end(5);
        Due.due("fault of what is left", x.fault(0), -1);
        Due.due("a sign above 127", Due.fault("l\u00e9", 0), 1);
    }

    /** Each of the five numbers alone is above 160 behind 158 bytes. */
    private static void feedInBounds() {
        CountyWatch x = new CountyWatch();
        for (int i = 0; i < 7; i++) {
            x.feed(-1, -1, -1, -1, -1);
        }
        Due.due("feed", x.feed(-1, -1, -1, -1, 0x01010000), 158);
        Due.due("feed a", x.feed(0x01010100, 0, 0, 0, 0), -1);
        Due.due("feed b", x.feed(0, 0x01010100, 0, 0, 0), -1);
        Due.due("feed c", x.feed(0, 0, 0x01010100, 0, 0), -1);
        Due.due("feed d", x.feed(0, 0, 0, 0x01010100, 0), -1);
        Due.due("feed e", x.feed(0, 0, 0, 0, 0x01010100), -1);
        Due.due("feed", x.feed(0, 1, 0, 1, 0), 160);
    }

    private static void beatFault(String text, int want) {
        Due.due("fault of the beat '" + text + "'", Due.fault(text, 0), want);
    }

    private static void beatFaults() {
        beatFault("", 0);
        beatFault("   ", 3);
        beatFault("l", -1);
        beatFault("  l  ", -1);
        beatFault("l;", 2);
        beatFault("l;;", 2);
        beatFault("l l", 2);
        beatFault("g", 1);
        beatFault("g1", -1);
        beatFault("g 1 5", 4);
        beatFault("g 15", -1);
        beatFault("g 16", 3);
        beatFault("g 161", 4);
        beatFault("g 0015", -1);
        beatFault("g 00015", 6);
        beatFault("g 99999", 6);
        beatFault("gx", 1);
        beatFault("w 0", 2);
        beatFault("w 1", -1);
        beatFault("w 01", -1);
        beatFault("w 240", -1);
        beatFault("w 241;l", 4);
        beatFault("w 24 1", 5);
        beatFault("p 3", 3);
        beatFault("p 3;", 3);
        beatFault("p 3 0", -1);
        beatFault("p 3 1440", -1);
        beatFault("p 3 1441", 7);
        beatFault("p 3  ", 5);
        beatFault("p 16 3", 3);
        beatFault("p 123", 4);
        beatFault("(l)2", -1);
        beatFault("( l ; g 3 ) 20 ; l", -1);
        beatFault("(l)", 3);
        beatFault("(l)0", 3);
        beatFault("(l)21", 4);
        beatFault("()2", 1);
        beatFault("(l;)2", 3);
        beatFault("(l 2", 3);
        beatFault("l)2", 1);
        beatFault("((((l)1)1)1)1", -1);
        beatFault("(((((l)1)1)1)1)1", 4);
        beatFault("((((l)1)1)1)1;((((l)1)1)1)1", -1);
        beatFault("(((l)1;(((", 9);
        Due.due("fault(3)", Due.fault("l", 3), -2);
        Due.due("fault(-1)", Due.fault("l", -1), -2);
    }

    private static void beats() {
        CountyWatch x = new CountyWatch();
        Due.put(x, "l;x");
        Due.due("a beat with a fault", x.beat(), -1);
        Due.due("the tape stays", x.count(18), 3);
        Due.due("beat", Due.beat(x, "((l;p 1 2)3;w 5)2;(p 3 4)2"), 0);
        Due.due("the tape is empty", x.count(18), 0);
        Due.due("steps", x.beaten(0, 0), 16);
        Due.due("points", x.beaten(0, 1), 8);
        Due.due("beaten, no such what", x.beaten(0, 2), -1);
        Due.due("beaten, no such beat", x.beaten(1, 0), -1);
        Due.due("beaten, no such beat", x.beaten(-1, 0), -1);
        Due.due("150 steps", Due.beat(x, "((l;l;l;l;l)15)2"), 1);
        Due.due("150 steps", x.beaten(1, 0), 150);
        Due.due("151 steps", Due.beat(x, "((l;l;l;l;l)15)2;l"), -1);
        Due.due("151 steps have no fault", x.fault(0), -1);
        Due.due("160,000 steps", Due.beat(x, "((((l)20)20)20)20"), -1);
        Due.due("count(3)", x.count(3), 2);
    }

    private static void actFault(String text, int want) {
        Due.due("fault of the act '" + text + "'", Due.fault(text, 1), want);
    }

    private static void actFaults() {
        actFault("", 0);
        actFault("k=1?n", -1);
        actFault(" k = 1 ? n ", -1);
        actFault("k=1?", 4);
        actFault("k=1?q", 4);
        actFault("k=1?nn", 5);
        actFault("k=1?x;k<2?r;k>3?t", -1);
        actFault("k=1?x;", 6);
        actFault("k?n", 1);
        actFault("k=1", 3);
        actFault("k=1=2?n", 3);
        actFault("y=1?n", 0);
        actFault("k+w*p-h=d*[c+n]-e*t?n", -1);
        actFault("k=1 2?n", 4);
        actFault("k=9999?n", -1);
        actFault("k=10000?n", 6);
        actFault("(k=1|w=2)&!p=3?n", -1);
        actFault("(k+1)=2?n", 4);
        actFault("(k+1=2", 6);
        actFault("[k=1]?n", 2);
        actFault("[k]=1?n", -1);
        actFault("k=-1?n", 2);
        actFault("!!!!!!k=1?n", -1);
        actFault("!!!!!!!k=1?n", 6);
        actFault("([!([!", 3 - 1);
        actFault("((!(((k=1))))))?n", 14);
        actFault("((!(((k=[1]", 8);
        actFault("!k=[[[[[1]]]]]?n", -1);
        actFault("!k=[[[[[[1", 8);
        actFault("!!!!!!k=1&!!!!!!w=2?n", -1);
        actFault("k=1?n;l", 6);
        actFault("k=1&?n", 4);
        actFault("k=1|", 4);
        actFault("5=5?t", -1);
    }

    private static void payFault(String text, int want) {
        Due.due("fault of the pay '" + text + "'", Due.fault(text, 2), want);
    }

    private static void payFaults() {
        payFault("", 0);
        payFault("5", -1);
        payFault("12345", 4);
        payFault("c*100+y;5", -1);
        payFault("c=1?5", -1);
        payFault("c=1?5;m>0&x=0|t+a>2?7;1", -1);
        payFault("c=1", 3);
        payFault("c=1;5", 3);
        payFault("c?5", 1);
        payFault("(c=1)?5", -1);
        payFault("(c)?5", 2);
        payFault("(c=1)5", 5);
        payFault("!c=1?[c+1]*2", -1);
        payFault("!c?1", 2);
        payFault("k", 0);
        payFault("5;", 2);
        payFault("5 5", 2);
        payFault("c=1?5?", 5);
        payFault("c=1?(5)", 4);
        payFault("[[[[[[c]]]]]]", -1);
        payFault("[[[[[[[c", 6);
        payFault("[c]=1?n", 6);
        payFault("((((((c=1))))))?5", -1);
        payFault("(((((((c=1", 6);
        payFault("!!!!!!c=1&!!!!!!c=1|!!!!!!c=1?[[[[[[5]]]]]]", -1);
        payFault("c=[[[[[[1]]]]]]&!!!!!!c=1|((((((c=1))))))?5", -1);
        payFault("c=1&!!!!!!!c=1", 10);
        payFault("c=1?[[[[[[[5", 10);
        payFault("c=1?5=5", 5);
    }

    private static void fullShelves() {
        CountyWatch x = new CountyWatch();
        for (int i = 0; i < 12; i++) {
            Due.due("beat " + i, Due.beat(x, "l"), i);
        }
        Due.due("beat 12", Due.beat(x, "l"), -1);
        for (int i = 0; i < 20; i++) {
            Due.due("act " + i, Due.act(x, "k=1?n", 30), i);
            Due.due("pay " + i, Due.pay(x, "5", 30), i);
        }
        Due.due("act 20", Due.act(x, "k=1?n", 0), -1);
        Due.due("pay 20", Due.pay(x, "5", 0), -1);
        Due.due("count(7)", x.count(7), 20);
        Due.due("count(15)", x.count(15), 20);
    }

    /** Texts by the grammar have no FAULT; cut short, or with a # within, it is where they are cut. */
    private static void growing() {
        for (int i = 0; i < 400; i++) {
            int sort = i % 3;
            String text = sort == 0 ? steps(3) : sort == 1 ? clauses(true) : clauses(false);
            if (text.length() > 150) {
                continue;
            }
            Due.due("fault of '" + text + "'", Due.fault(text, sort), -1);
            int cut = RANDOM.nextInt(text.length() + 1);
            int fault = Due.fault(text.substring(0, cut), sort);
            boolean sound = fault == -1 || fault == cut || sort == 0 && fault == cut - 1 && text.charAt(cut - 1) == '0';
            Due.due("'" + text + "' cut at " + cut, sound, true);
            String spoilt = text.substring(0, cut) + "#" + text.substring(cut);
            int spot = Due.fault(spoilt, sort);
            boolean near = spot == cut || sort == 0 && spot == cut - 1 && text.charAt(cut - 1) == '0';
            Due.due("'" + spoilt + "'", near, true);
        }
    }

    private static String blank() {
        return RANDOM.nextInt(4) == 0 ? " " : "";
    }

    private static String steps(int deep) {
        StringBuilder all = new StringBuilder();
        int many = 1 + RANDOM.nextInt(3);
        for (int i = 0; i < many; i++) {
            all.append(i == 0 ? "" : blank() + ";" + blank());
            int kind = RANDOM.nextInt(deep > 0 ? 6 : 4);
            if (kind == 0) {
                all.append("g").append(blank()).append(RANDOM.nextInt(16));
            } else if (kind == 1) {
                all.append("w").append(blank()).append(1 + RANDOM.nextInt(240));
            } else if (kind == 2) {
                all.append("p").append(blank()).append(RANDOM.nextInt(16)).append(" ").append(RANDOM.nextInt(1441));
            } else if (kind == 3) {
                all.append("l");
            } else {
                all.append("(").append(blank()).append(steps(deep - 1)).append(")").append(1 + RANDOM.nextInt(20));
            }
        }
        return all.toString();
    }

    private static String clauses(boolean act) {
        StringBuilder all = new StringBuilder();
        int many = 1 + RANDOM.nextInt(3);
        String letters = act ? "kwphdcnet" : "cymxta";
        for (int i = 0; i < many; i++) {
            all.append(i == 0 ? "" : ";").append(blank());
            if (act) {
                all.append(condition(letters, 2)).append("?").append(blank()).append("xnrt".charAt(RANDOM.nextInt(4)));
            } else {
                all.append(RANDOM.nextBoolean() ? condition(letters, 2) + "?" : "").append(sum(letters, 2));
            }
        }
        return all.toString();
    }

    private static String condition(String letters, int deep) {
        StringBuilder all = new StringBuilder(unit(letters, deep));
        for (int i = RANDOM.nextInt(3); i > 0; i--) {
            all.append(blank()).append(RANDOM.nextBoolean() ? "&" : "|").append(blank()).append(unit(letters, deep));
        }
        return all.toString();
    }

    private static String unit(String letters, int deep) {
        int kind = RANDOM.nextInt(deep > 0 ? 4 : 2);
        if (kind == 2) {
            return "!" + blank() + unit(letters, deep - 1);
        }
        if (kind == 3) {
            return "(" + condition(letters, deep - 1) + blank() + ")";
        }
        return sum(letters, deep) + blank() + "=<>".charAt(RANDOM.nextInt(3)) + blank() + sum(letters, deep);
    }

    private static String sum(String letters, int deep) {
        StringBuilder all = new StringBuilder(atom(letters, deep));
        for (int i = RANDOM.nextInt(3); i > 0; i--) {
            all.append(blank()).append("+-*".charAt(RANDOM.nextInt(3))).append(blank()).append(atom(letters, deep));
        }
        return all.toString();
    }

    private static String atom(String letters, int deep) {
        int kind = RANDOM.nextInt(deep > 0 ? 3 : 2);
        if (kind == 0) {
            return String.valueOf(RANDOM.nextInt(10000));
        }
        if (kind == 1) {
            return String.valueOf(letters.charAt(RANDOM.nextInt(letters.length())));
        }
        return "[" + sum(letters, deep - 1) + "]";
    }
}
