import java.util.ArrayList;
import java.util.HashMap;
import java.util.LinkedHashSet;
import java.util.List;
import java.util.Map;
import java.util.Random;
import java.util.Set;

/**
 * The grammars of the document as rules, and a reading that keeps all ways in which a text may go on (Earley's), so that the
 * FAULT is by itself the first byte at which there is none. A name with a number behind it holds so many ( [ ! around it.
 */
final class PlainGrammar {
    private static final int MOST_DIGITS = 4;
    private static final String START = "TEXT";

    private record Item(String name, String[] parts, int dot, int origin) {
        boolean isOver() {
            return dot == parts.length;
        }

        String next() {
            return parts[dot];
        }

        Item moved() {
            return new Item(name, parts, dot + 1, origin);
        }
    }

    private final Map<String, List<String[]>> rules = new HashMap<>();
    /** What a number may be, by the name that stands for it in a rule. */
    private final Map<String, int[]> numbers = new HashMap<>();

    static PlainGrammar ofBeats() {
        PlainGrammar g = new PlainGrammar();
        g.numbers.put("PLACE", new int[] {0, 15});
        g.numbers.put("WAIT", new int[] {1, 240});
        g.numbers.put("DUE", new int[] {0, 1440});
        g.numbers.put("TIMES", new int[] {1, 20});
        g.rule(START, "STEPS0");
        for (int d = 0; d <= 4; d++) {
            g.rule("STEPS" + d, "STEP" + d);
            g.rule("STEPS" + d, "STEPS" + d, ";", "STEP" + d);
            g.rule("STEP" + d, "g", "PLACE");
            g.rule("STEP" + d, "w", "WAIT");
            g.rule("STEP" + d, "p", "PLACE", "DUE");
            g.rule("STEP" + d, "l");
            if (d < 4) {
                g.rule("STEP" + d, "(", "STEPS" + (d + 1), ")", "TIMES");
            }
        }
        return g;
    }

    static PlainGrammar ofActs() {
        PlainGrammar g = new PlainGrammar();
        g.clauses("kwphdcnet");
        for (char told : "xnrt".toCharArray()) {
            g.rule("CLAUSE", "CONDITION0", "?", String.valueOf(told));
        }
        return g;
    }

    static PlainGrammar ofPay() {
        PlainGrammar g = new PlainGrammar();
        g.clauses("cymxta");
        g.rule("CLAUSE", "CONDITION0", "?", "SUM0");
        g.rule("CLAUSE", "SUM0");
        return g;
    }

    private void rule(String name, String... parts) {
        rules.computeIfAbsent(name, n -> new ArrayList<>()).add(parts);
    }

    private void clauses(String letters) {
        numbers.put("NUMBER", new int[] {0, 9999});
        rule(START, "CLAUSE");
        rule(START, START, ";", "CLAUSE");
        for (int d = 0; d <= 6; d++) {
            list("CONDITION" + d, "|", "PART" + d);
            list("PART" + d, "&", "UNIT" + d);
            list("SUM" + d, "+", "TERM" + d);
            rule("SUM" + d, "SUM" + d, "-", "TERM" + d);
            list("TERM" + d, "*", "ATOM" + d);
            rule("ATOM" + d, "NUMBER");
            for (char letter : letters.toCharArray()) {
                rule("ATOM" + d, String.valueOf(letter));
            }
            for (String sign : new String[] {"=", "<", ">"}) {
                rule("UNIT" + d, "SUM" + d, sign, "SUM" + d);
            }
            if (d < 6) {
                rule("UNIT" + d, "!", "UNIT" + (d + 1));
                rule("UNIT" + d, "(", "CONDITION" + (d + 1), ")");
                rule("ATOM" + d, "[", "SUM" + (d + 1), "]");
            }
        }
    }

    private void list(String name, String between, String one) {
        rule(name, one);
        rule(name, name, between, one);
    }

    /** A text that the rules allow, with blanks here and there; the first rule of a name is its plainest. */
    String grow(Random random, int size) {
        List<String> signs = new ArrayList<>();
        expand(START, random, new int[] {size}, signs);
        StringBuilder text = new StringBuilder();
        for (int i = 0; i < signs.size(); i++) {
            boolean bothNumbers = i > 0 && endsWithDigit(signs.get(i - 1)) && endsWithDigit(signs.get(i));
            text.append(bothNumbers || random.nextInt(9) == 0 ? " " : "").append(signs.get(i));
        }
        return text.append(random.nextInt(20) == 0 ? " " : "").toString();
    }

    private static boolean endsWithDigit(String sign) {
        return Character.isDigit(sign.charAt(sign.length() - 1));
    }

    private void expand(String name, Random random, int[] left, List<String> to) {
        int[] bounds = numbers.get(name);
        List<String[]> choices = rules.get(name);
        if (bounds != null) {
            int value = bounds[0] + random.nextInt(bounds[1] - bounds[0] + 1);
            to.add(random.nextInt(9) == 0 ? String.format("%04d", value) : String.valueOf(value));
        } else if (choices == null) {
            to.add(name);
        } else {
            left[0]--;
            for (String part : choices.get(left[0] > 0 ? random.nextInt(choices.size()) : 0)) {
                expand(part, random, left, to);
            }
        }
    }

    /** The FAULT, or -1. */
    int fault(String text) {
        List<Set<Item>> sets = new ArrayList<>();
        Set<Item> now = new LinkedHashSet<>();
        for (String[] parts : rules.get(START)) {
            now.add(new Item(START, parts, 0, 0));
        }
        int at = 0;
        while (true) {
            sets.add(spread(now, sets));
            while (at < text.length() && text.charAt(at) == ' ') {
                at++;
            }
            if (at == text.length()) {
                return isWhole(now) ? -1 : at;
            }
            int end = at;
            while (end < text.length() && Character.isDigit(text.charAt(end)) && text.charAt(end) < 128) {
                end++;
            }
            Set<Item> behind = new LinkedHashSet<>();
            if (end == at) {
                move(now, behind, text.substring(at, at + 1));
                if (behind.isEmpty()) {
                    return at;
                }
                at++;
            } else {
                String sort = numberThatMayStand(now);
                if (sort == null) {
                    return at;
                }
                if (end - at > MOST_DIGITS) {
                    return at + MOST_DIGITS;
                }
                int value = Integer.parseInt(text.substring(at, end));
                if (value < numbers.get(sort)[0] || value > numbers.get(sort)[1]) {
                    return end - 1;
                }
                move(now, behind, sort);
                at = end;
            }
            now = behind;
        }
    }

    private static void move(Set<Item> now, Set<Item> behind, String sign) {
        for (Item item : now) {
            if (!item.isOver() && item.next().equals(sign)) {
                behind.add(item.moved());
            }
        }
    }

    private String numberThatMayStand(Set<Item> now) {
        for (Item item : now) {
            if (!item.isOver() && numbers.containsKey(item.next())) {
                return item.next();
            }
        }
        return null;
    }

    private static boolean isWhole(Set<Item> now) {
        return now.stream().anyMatch(item -> item.isOver() && item.name().equals(START) && item.origin() == 0);
    }

    /** What begins at this spot, and what is over at it, till nothing more comes. */
    private Set<Item> spread(Set<Item> now, List<Set<Item>> sets) {
        int here = sets.size();
        List<Item> left = new ArrayList<>(now);
        for (int i = 0; i < left.size(); i++) {
            Item item = left.get(i);
            List<Item> more = new ArrayList<>();
            if (!item.isOver()) {
                for (String[] parts : rules.getOrDefault(item.next(), List.of())) {
                    more.add(new Item(item.next(), parts, 0, here));
                }
            } else {
                for (Item outer : item.origin() == here ? left : new ArrayList<>(sets.get(item.origin()))) {
                    if (!outer.isOver() && outer.next().equals(item.name())) {
                        more.add(outer.moved());
                    }
                }
            }
            for (Item one : more) {
                if (now.add(one)) {
                    left.add(one);
                }
            }
        }
        return now;
    }
}
