import java.util.Random;

/** The FAULT of any text, whole, cut, spoilt or put together by chance, against the rules of the document as they are written. */
public final class GrammarTest {
    private static final PlainGrammar[] GRAMMARS = {PlainGrammar.ofBeats(), PlainGrammar.ofActs(), PlainGrammar.ofPay()};
    private static final String[] SIGNS = {"gwpl();0123456789  ", "kwphdcnet=<>&|!?()[]+-*;0123456789  xnrt",
        "cymxta=<>&|!?()[]+-*;0123456789  "};
    private static final Random RANDOM = new Random(20261116);

    public static void main(String[] args) {
        for (int i = 0; i < 6000; i++) {
            int sort = i % 3;
            String text = GRAMMARS[sort].grow(RANDOM, 5 + RANDOM.nextInt(90));
            Due.due("the rules allow '" + text + "'", GRAMMARS[sort].fault(text), -1);
            compare(text, sort);
            compare(text, (sort + 1) % 3);
            compare(spoilt(text, sort), sort);
            compare(spoilt(spoilt(text, sort), sort), sort);
            compare(byChance(sort), sort);
        }
        Due.finish("GrammarTest");
    }

    private static void compare(String text, int sort) {
        if (text.length() <= 160) {
            Due.due("fault(" + sort + ") of '" + text + "'", Due.fault(text, sort), GRAMMARS[sort].fault(text));
        }
    }

    private static char anySign(int sort) {
        if (RANDOM.nextInt(20) == 0) {
            return (char) (1 + RANDOM.nextInt(255));
        }
        return SIGNS[sort].charAt(RANDOM.nextInt(SIGNS[sort].length()));
    }

    /** One sign left out, put in, put in place of another, or all from one spot on left out. */
    private static String spoilt(String text, int sort) {
        if (text.isEmpty()) {
            return text;
        }
        int at = RANDOM.nextInt(text.length());
        String ahead = text.substring(0, at);
        switch (RANDOM.nextInt(5)) {
            case 0:
                return ahead + text.substring(at + 1);
            case 1:
                return ahead + anySign(sort) + text.substring(at);
            case 2:
                return ahead + anySign(sort) + text.substring(at + 1);
            case 3:
                return ahead + text.charAt(at) + text.substring(at);
            default:
                return ahead;
        }
    }

    private static String byChance(int sort) {
        StringBuilder text = new StringBuilder();
        for (int i = RANDOM.nextInt(12); i > 0; i--) {
            text.append(anySign(sort));
        }
        return text.toString();
    }
}
