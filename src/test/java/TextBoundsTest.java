/** The bounds of what stands in texts: numbers, digits, blanks, ( [ ! within one another, and what SUMS come to. */
public final class TextBoundsTest {
    private static final int BEAT = 0;
    private static final int ACT = 1;
    private static final int PAY = 2;

    public static void main(String[] args) {
        numbersOfBeats();
        digits();
        blanks();
        betweenTwoNumbers();
        endsTooEarly();
        oneAtLeast();
        groups();
        unfolded();
        nestings();
        nestingsSideBySide();
        firstFaultsOfRules();
        wrongSigns();
        refusedTexts();
        truths();
        boundsOfSums();
        boundsOfPay();
        longestTexts();
        Due.finish("TextBoundsTest");
    }

    private static void fault(int sort, String text, int want) {
        Due.due("fault(" + sort + ") of '" + text + "'", Due.fault(text, sort), want);
    }

    /** A number ahead of which and behind which these stand. */
    private static void number(String ahead, int least, int most, String behind) {
        fault(BEAT, ahead + least + behind, -1);
        fault(BEAT, ahead + most + behind, -1);
        fault(BEAT, ahead + (most + 1) + behind, (ahead + (most + 1)).length() - 1);
        fault(BEAT, ahead + 9999 + behind, ahead.length() + 3);
        if (least > 0) {
            fault(BEAT, ahead + (least - 1) + behind, ahead.length());
            fault(BEAT, ahead + "0000" + behind, ahead.length() + 3);
        }
        fault(BEAT, ahead + "00001" + behind, ahead.length() + 4);
        fault(BEAT, ahead + "99999" + behind, ahead.length() + 4);
        fault(BEAT, ahead + "-1" + behind, ahead.length());
        firstFaultCounts(ahead, most + 1, behind);
    }

    /** What is wrong behind a FAULT is no FAULT. */
    private static void firstFaultCounts(String ahead, int wrong, String behind) {
        int want = (ahead + wrong).length() - 1;
        fault(BEAT, ahead + wrong + "x" + behind, want);
        fault(BEAT, ahead + wrong + " x" + behind, want);
        fault(BEAT, ahead + wrong + ";" + behind + ";", want);
        fault(BEAT, ahead + wrong + behind + ")", want);
        fault(BEAT, ahead + wrong + behind + ";g 99999", want);
    }

    private static void numbersOfBeats() {
        String[] behind = {"", " ", ";l", " ; l"};
        for (String end : behind) {
            number("g ", 0, 15, end);
            number("g", 0, 15, end);
            number("l;g ", 0, 15, end);
            number("w ", 1, 240, end);
            number("w", 1, 240, end);
            number("p 3 ", 0, 1440, end);
            number("p15  ", 0, 1440, end);
            number("(l)", 1, 20, end);
            number("( g 5 ; l ) ", 1, 20, end);
            number("p ", 0, 15, " 7" + end);
        }
        number("(g ", 0, 15, ")2");
        number("(w ", 1, 240, ")2");
        number("(p 3 ", 0, 1440, ")2");
        number("((l)", 1, 20, ")2");
    }

    private static void digits() {
        fault(BEAT, "g 0015", -1);
        fault(BEAT, "g 00015", 6);
        fault(BEAT, "g 000000", 6);
        fault(BEAT, "p 0003 0007", -1);
        fault(BEAT, "p 0003 00007", 11);
        fault(BEAT, "(l)0020", -1);
        fault(BEAT, "(l)00020", 7);
        for (int sort = ACT; sort <= PAY; sort++) {
            String letter = sort == ACT ? "k" : "c";
            String end = sort == ACT ? "?n" : "?7";
            fault(sort, letter + "=0" + end, -1);
            fault(sort, letter + "=9999" + end, -1);
            fault(sort, letter + "=0000" + end, -1);
            fault(sort, letter + "=10000" + end, 6);
            fault(sort, letter + "=00000" + end, 6);
            fault(sort, letter + "=[99999]" + end, 7);
            fault(sort, "12345=" + letter + end, 4);
        }
        fault(PAY, "9999", -1);
        fault(PAY, "99999", 4);
        fault(PAY, "c=1?9999", -1);
        fault(PAY, "c=1?10000", 8);
    }

    private static void blanks() {
        fault(BEAT, "  ( g  1 ;  l ;p  2   40 )  3 ; w  5 ", -1);
        fault(ACT, "  ! (  k  =  3 |  w > [ 2 + e ] * t )  &  n <  1  ?  n  ;  1 = 1 ? t ", -1);
        fault(PAY, "  ! (  c  =  3 |  y > [ 2 + m ] * t )  &  a <  1  ?  5  ;  1 - 1 ", -1);
        fault(BEAT, "g 1 2", 4);
        fault(BEAT, "w 2 4", 4);
        fault(BEAT, "(l)1 2", 5);
        fault(ACT, "k=1 2?n", 4);
        fault(PAY, "1 2", 2);
        fault(BEAT, "g\t1", 1);
        fault(BEAT, "l\n", 1);
        fault(ACT, "k =\u00a01?n", 3);
    }

    private static void betweenTwoNumbers() {
        fault(BEAT, "p 1 5", -1);
        fault(BEAT, "p1 5", -1);
        fault(BEAT, "p 1  5", -1);
        fault(BEAT, "p 15", 4);
        fault(BEAT, "p 15;", 4);
        fault(BEAT, "p 1;5", 3);
        fault(BEAT, "p 16", 3);
        fault(BEAT, "p 1 5 6", 6);
    }

    /** At each cut behind which the text could go on, the FAULT is the length. */
    private static void endsTooEarly() {
        cuts(BEAT, "( g 1 ; l ) 3 ; p 2 40", 1, 2, 3, 6, 7, 8, 9, 10, 11, 12, 15, 16, 17, 18, 19, 20);
        cuts(ACT, "!(k=1|[w]>2)&n<3?r;e=t?x", 1, 2, 3, 4, 5, 6, 7, 8, 9, 10, 11, 12, 13, 14, 15, 16, 17, 19, 20, 21, 22, 23);
        cuts(PAY, "c=[y+1]*2?m-3;!a=t?5", 2, 3, 4, 5, 6, 7, 8, 9, 10, 12, 14, 15, 16, 17, 18, 19);
        for (int sort = BEAT; sort <= PAY; sort++) {
            fault(sort, "", 0);
            fault(sort, " ", 1);
            fault(sort, "    ", 4);
        }
    }

    private static void cuts(int sort, String text, int... lengths) {
        fault(sort, text, -1);
        for (int length : lengths) {
            fault(sort, text.substring(0, length), length);
        }
    }

    private static void oneAtLeast() {
        fault(BEAT, ";", 0);
        fault(BEAT, ";l", 0);
        fault(BEAT, "l;;l", 2);
        fault(BEAT, "()2", 1);
        fault(BEAT, "( )2", 2);
        fault(ACT, ";", 0);
        fault(ACT, "?n", 0);
        fault(ACT, "k=1?n;;", 6);
        fault(ACT, "()?n", 1);
        fault(ACT, "[]=1?n", 1);
        fault(ACT, "!?n", 1);
        fault(ACT, "k=?n", 2);
        fault(ACT, "=1?n", 0);
        fault(PAY, ";", 0);
        fault(PAY, "?5", 0);
        fault(PAY, "5;;", 2);
        fault(PAY, "[]", 1);
        fault(PAY, "c=1?;5", 4);
    }

    private static void groups() {
        fault(BEAT, "((((l)1)1)1)1", -1);
        fault(BEAT, "(((((l)1)1)1)1)1", 4);
        fault(BEAT, " ( ( ( ( ( l", 9);
        fault(BEAT, "((((l)1;(l)1)1)1)1", -1);
        fault(BEAT, "((((l;(l)1)1)1)1)1", 6);
        fault(BEAT, "(((l)1;(l)1)1)1;((((l)2)2)2)2", -1);
        fault(BEAT, "((((l)1)1)1)1)1", 13);
        fault(BEAT, "((((l)1)1)1", 11);
    }

    private static int steps(String text) {
        CountyWatch x = new CountyWatch();
        int number = Due.beat(x, text);
        Due.due("a refused beat keeps the tape", x.count(18), number == -1 ? text.length() : 0);
        Due.due("a refused beat is not counted", x.count(3), number + 1);
        return x.beaten(0, 0);
    }

    private static void unfolded() {
        Due.due("one step", steps("l"), 1);
        Due.due("149 steps", steps("((l)15)9;(l)14"), 149);
        Due.due("150 steps", steps("((l)15)10"), 150);
        Due.due("151 steps", steps("((l)15)10;l"), -1);
        Due.due("151 steps, the other way", steps("l;((l)15)10"), -1);
        Due.due("150 steps of several", steps("(l;w 5;g 3)20;(l;g 2)20;((l;w 1)5)5"), 150);
        Due.due("152 steps of several", steps("(l;w 5;g 3)20;(l;g 2)20;((l;w 1)13)2"), -1);
        Due.due("160,000 steps", steps("((((l)20)20)20)20"), -1);
        Due.due("160,000 steps and more", steps("((((l)20)20)20)20;l;(l)20"), -1);
        fault(BEAT, "((((l)20)20)20)20;l;(l)20", -1);
        fault(BEAT, "((((l)20)20)20)20;x", 18);
        fault(BEAT, "((((l)20)20)20)21", 16);
        Due.due("once is once", steps("((((l)1)1)1)1"), 1);
    }

    /** Every row of ( and !, then of [, six of them and seven. */
    private static void nestings() {
        for (int inner = 0; inner <= 7; inner++) {
            for (int outer = 6 - inner; outer <= 7 - inner; outer++) {
                for (int signs = 0; outer >= 0 && signs < 1 << outer; signs++) {
                    nesting(signs, outer, inner);
                }
            }
        }
        for (int many = 1; many <= 7; many++) {
            String opened = "[".repeat(many) + "c" + "]".repeat(many);
            fault(PAY, opened, many <= 6 ? -1 : 6);
            fault(PAY, opened + "=1?5", many <= 6 ? -1 : 6);
            fault(PAY, "c=1?" + opened, many <= 6 ? -1 : 10);
        }
    }

    private static void nesting(int signs, int outer, int inner) {
        StringBuilder ahead = new StringBuilder();
        StringBuilder behind = new StringBuilder();
        for (int i = 0; i < outer; i++) {
            boolean not = (signs >> i & 1) == 1;
            ahead.append(not ? "!" : "(");
            behind.append(not ? "" : ")");
        }
        String held = "[".repeat(inner) + "c" + "]".repeat(inner);
        boolean deep = outer + inner > 6;
        fault(ACT, ahead + held + "=1" + behind + "?n", deep ? 6 : -1);
        fault(ACT, ahead + "1=" + held + behind + "?n", !deep ? -1 : outer > 6 ? 6 : 8);
        if (outer > 0 || inner < 7) {
            fault(PAY, ahead + held + "<1" + behind + "?5", deep ? 6 : -1);
        }
    }

    private static void nestingsSideBySide() {
        String six = "(!(!([c]=1))))";
        String deepest = "(!(!([c]=1)))";
        fault(ACT, deepest + "&" + deepest + "|" + deepest + "?n;" + deepest + "?t", -1);
        fault(ACT, six + "?n", 13);
        fault(PAY, deepest + "&" + deepest + "|" + deepest + "?[[[[[[c]]]]]]*[[[[[[c]]]]]];[[[[[[c]]]]]]", -1);
        fault(ACT, "!!!!!!c=1&!!!!!!c=1|!!!!!!!c=1?n", 26);
        fault(ACT, "[[[[[[c]]]]]]+[[[[[[c]]]]]]=[[[[[[c]]]]]]?n", -1);
        fault(ACT, "[[[[[[c]]]]]]=[[[[[[[c", 20);
        fault(ACT, "![[[[[c+[c]]]]]]=1?n", 8);
    }

    private static void firstFaultsOfRules() {
        fault(ACT, "k=1?q;k=1?q", 4);
        fault(ACT, "k;k=1?n;", 1);
        fault(ACT, "k=10000;x", 6);
        fault(ACT, "k=1;w=2?n;?", 3);
        fault(ACT, "!;k=1?n;?", 1);
        fault(ACT, "(k=1;w=2?n;?", 4);
        fault(ACT, "[k;w=2?n;?", 2);
        fault(ACT, "k=1&;w=2?n;?", 4);
        fault(ACT, "k=1|;w=2?n;?", 4);
        fault(ACT, "k+;w=2?n;?", 2);
        fault(ACT, "k*;w=2?n;?", 2);
        fault(PAY, "c=1;5x", 3);
        fault(PAY, "c=1;5;;", 3);
        fault(PAY, "c=1?;5?", 4);
        fault(PAY, "c=1?;5;;", 4);
        fault(PAY, "(c=1);5;;", 5);
        fault(PAY, "10000;x", 4);
        fault(PAY, "[c;5;;", 2);
        fault(PAY, "c+;5;;", 2);
    }

    private static void wrongSigns() {
        for (int sign = 1; sign < 256; sign++) {
            String text = String.valueOf((char) sign);
            boolean step = "gwpl( ".indexOf(sign) >= 0;
            fault(BEAT, text, sign == 'l' ? -1 : step ? 1 : 0);
            boolean atom = "kwphdcnet([! 0123456789".indexOf(sign) >= 0;
            fault(ACT, text, atom ? 1 : 0);
            boolean whole = "cymxta0123456789".indexOf(sign) >= 0;
            boolean begins = "([! ".indexOf(sign) >= 0;
            fault(PAY, text, whole ? -1 : begins ? 1 : 0);
            boolean told = "xnrt".indexOf(sign) >= 0;
            fault(ACT, "k=1?" + text, told ? -1 : sign == ' ' ? 5 : 4);
            boolean compared = "=<>+-* ".indexOf(sign) >= 0;
            fault(ACT, "k" + text, compared ? 2 : 1);
            boolean behind = "?&|+-* 0123456789".indexOf(sign) >= 0;
            fault(ACT, "k=1" + text, behind ? 4 : 3);
        }
    }

    /** A text that is refused as one sort stays on the TAPE, and may be told as another. */
    private static void refusedTexts() {
        CountyWatch x = new CountyWatch();
        Due.put(x, "c=1?5");
        Due.due("no beat", x.beat(), -1);
        Due.due("no act", x.act(0), -1);
        Due.due("no day", x.pay(31), -1);
        Due.due("no day", x.pay(-1), -1);
        Due.due("five bytes", x.count(18), 5);
        Due.due("fault as an act", x.fault(1), 4);
        Due.due("pay", x.pay(30), 0);
        Due.due("the tape is empty", x.count(18), 0);
        Due.due("pay of an empty tape", x.pay(0), -1);
        Due.due("one pay", x.count(15), 1);
        Due.put(x, "c=1?t");
        Due.due("both: an act", x.fault(1), -1);
        Due.due("both: pay", x.fault(2), -1);
        Due.due("act", x.act(30), 0);
        Due.due("no acts but one", x.count(7), 1);
    }

    /** What PAY of a SUM is, for a constable of CLASS 1 and 40 YEARS. */
    private static int paid(String text) {
        CountyWatch x = new CountyWatch();
        x.constable(1, 40, 0);
        Due.due("pay '" + text + "'", Due.pay(x, text, 0), 0);
        x.tick(1440);
        return x.paid(0, 0, 1440);
    }

    /** All that ! & and | make of what holds and what does not. */
    private static void truths() {
        String[] units = {"0=1", "1=1", "c>1", "c<2"};
        for (int one = 0; one < 4; one++) {
            holds(units[one], one % 2 == 1);
            holds("!" + units[one], one % 2 == 0);
            holds("!!" + units[one], one % 2 == 1);
            holds("!(" + units[one] + ")", one % 2 == 0);
            for (int other = 0; other < 4; other++) {
                boolean left = one % 2 == 1;
                boolean right = other % 2 == 1;
                holds(units[one] + "&" + units[other], left && right);
                holds(units[one] + "|" + units[other], left || right);
                holds("!" + units[one] + "&" + units[other], !left && right);
                holds(units[one] + "&!" + units[other], left && !right);
                holds("!" + units[one] + "|" + units[other], !left || right);
                holds(units[one] + "|!" + units[other], left || !right);
                holds("!(" + units[one] + "&" + units[other] + ")", !(left && right));
                holds("!(" + units[one] + "|" + units[other] + ")", !(left || right));
                for (int third = 0; third < 2; third++) {
                    boolean last = third == 1;
                    holds(units[one] + "|" + units[other] + "&" + units[third], left || right && last);
                    holds(units[one] + "&" + units[other] + "|" + units[third], left && right || last);
                    holds("(" + units[one] + "|" + units[other] + ")&" + units[third], (left || right) && last);
                    holds(units[one] + "&(" + units[other] + "|" + units[third] + ")", left && (right || last));
                }
            }
        }
    }

    private static void holds(String condition, boolean want) {
        Due.due(condition, paid(condition + "?7;3"), want ? 7 : 3);
    }

    private static void sum(String text, String want) {
        Due.due(text, paid(text + "=" + want + "?1;0"), 1);
        Due.due(text + ", less 1", paid(text + "<" + want + "+1?1;0"), 1);
        Due.due(text + ", and 1", paid(text + ">" + want + "-1?1;0"), 1);
    }

    private static void boundsOfSums() {
        Due.due("a million", paid("1000*1000=999*1000+1000?1"), 1);
        Due.due("a million less 1", paid("1000*1000-1<1000*1000?1"), 1);
        Due.due("a million and 1", paid("1000*1000+1=1000*1000?1"), 1);
        Due.due("a million and 1, less 1", paid("1000*1000+1-1=999*1000+999?1"), 1);
        Due.due("less a million", paid("0-1000*1000<0-999*1000-999?1"), 1);
        Due.due("less a million and 1", paid("0-1000*1000-1=0-1000*1000?1"), 1);
        Due.due("less a million and 1, and 1", paid("0-1000*1000-1+1=0-999*1000-999?1"), 1);
        Due.due("1,001 times 1,000", paid("1001*1000=1000*1000?1"), 1);
        Due.due("less 1,001 times 1,000", paid("[0-1001]*1000=0-1000*1000?1"), 1);
        Due.due("less 1,000 times 1,000", paid("[0-1000]*1000=0-1000*1000?1"), 1);
        Due.due("the greatest numbers", paid("9999*9999=1000*1000?1"), 1);
        Due.due("times 0 behind the bound", paid("9999*9999*0=0?1"), 1);
        Due.due("a million times a million", paid("[1000*1000]*[1000*1000]=1000*1000?1"), 1);
        Due.due("a million times less a million", paid("[1000*1000]*[0-1000*1000]=0-1000*1000?1"), 1);
        Due.due("less a million times less a million", paid("[0-1000*1000]*[0-1000*1000]=1000*1000?1"), 1);
        sum("9999*9999-9999", "990*1000+1");
        sum("0-9999*9999+9999", "0-990*1000-1");
        sum("[9999*9999]-[9999*9999]", "0");
        sum("9999+9999+9999", "9*3333");
        sum("7-10", "0-3");
    }

    private static void boundsOfPay() {
        Due.due("less 1", paid("0-1"), 0);
        Due.due("nothing", paid("0"), 0);
        Due.due("1", paid("1"), 1);
        Due.due("9,999", paid("9999"), 9999);
        Due.due("10,000", paid("9999+c"), 10000);
        Due.due("10,001", paid("9999+c+c"), 10000);
        Due.due("a million", paid("9999*9999"), 10000);
        Due.due("less a million", paid("0-9999*9999"), 0);
        Due.due("40 years", paid("y*250"), 10000);
        Due.due("none holds", paid("c=2?5;y<40?6"), 0);
        Due.due("the first that holds is below 0", paid("c=1?0-5;7"), 0);
        Due.due("bounded as it is told, not ahead", paid("9999+9999-9999"), 9999);
    }

    /** Texts of 160 bytes. */
    private static void longestTexts() {
        String ones = "1+".repeat(79) + "1 ";
        Due.due("160 bytes of ones", ones.length(), 160);
        Due.due("160 bytes of ones", paid(ones), 80);
        String letters = "c+".repeat(79) + " c";
        Due.due("160 bytes of letters", paid(letters), 80);
        String clauses = "0=1?5;".repeat(25) + "c=1?8 ;0+1";
        Due.due("160 bytes of clauses", clauses.length(), 160);
        Due.due("160 bytes of clauses", paid(clauses), 8);
        String sums = "0;".repeat(79) + "07";
        Due.due("160 bytes of sums", paid(sums), 0);
        String units = "c=1&".repeat(39) + "1?23";
        fault(PAY, units, 157);
        fault(ACT, "c=1&".repeat(39) + "1=c?", 160);
        fault(ACT, "!!!!!!".repeat(26) + "c=1?", 6);
        fault(BEAT, "l;".repeat(79) + "w5", -1);
        fault(BEAT, "l;".repeat(79) + "ll", 159);
        fault(BEAT, " ".repeat(159) + "l", -1);
        fault(BEAT, " ".repeat(160), 160);
    }
}
