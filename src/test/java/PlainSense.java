import java.util.ArrayList;
import java.util.List;
import java.util.Map;

/** What a text without FAULT says, by parting it at its signs, the outermost first. */
final class PlainSense {
    private final Map<Character, Integer> letters;

    PlainSense(Map<Character, Integer> letters) {
        this.letters = letters;
    }

    /** The STEPS of a BEAT, unfolded; null if there are more than 150. */
    static List<String[]> steps(String text) {
        List<String[]> all = new ArrayList<>();
        for (String one : parts(text.trim(), ";")) {
            String step = one.trim();
            if (step.startsWith("(")) {
                int close = step.lastIndexOf(')');
                List<String[]> inner = steps(step.substring(1, close));
                int times = Integer.parseInt(step.substring(close + 1).trim());
                for (int i = 0; inner != null && i < times; i++) {
                    all.addAll(inner);
                }
                if (inner == null || all.size() > 150) {
                    return null;
                }
            } else {
                all.add((step.charAt(0) + " " + step.substring(1).trim()).trim().split(" +"));
            }
        }
        return all.size() > 150 ? null : all;
    }

    /** Parted at one of the signs, where no bracket is open; each behind the first begins with its sign's place. */
    private static List<String> parts(String text, String signs) {
        List<String> all = new ArrayList<>();
        int open = 0;
        int from = 0;
        for (int i = 0; i < text.length(); i++) {
            char sign = text.charAt(i);
            open += "([".indexOf(sign) >= 0 ? 1 : ")]".indexOf(sign) >= 0 ? -1 : 0;
            if (open == 0 && signs.indexOf(sign) >= 0) {
                all.add(text.substring(from, i));
                from = i + 1;
            }
        }
        all.add(text.substring(from));
        return all;
    }

    int act(String text) {
        for (String clause : text.replace(" ", "").split(";")) {
            int mark = clause.indexOf('?');
            if (holds(clause.substring(0, mark))) {
                return "xnrt".indexOf(clause.charAt(mark + 1));
            }
        }
        return 0;
    }

    int pay(String text) {
        for (String clause : text.replace(" ", "").split(";")) {
            int mark = clause.indexOf('?');
            if (mark < 0 || holds(clause.substring(0, mark))) {
                return (int) Math.max(0, Math.min(10000, sum(clause.substring(mark + 1))));
            }
        }
        return 0;
    }

    private boolean holds(String condition) {
        List<String> some = parts(condition, "|");
        if (some.size() > 1) {
            return some.stream().anyMatch(this::holds);
        }
        List<String> all = parts(condition, "&");
        if (all.size() > 1) {
            return all.stream().allMatch(this::holds);
        }
        if (condition.startsWith("!")) {
            return !holds(condition.substring(1));
        }
        if (condition.startsWith("(")) {
            return holds(condition.substring(1, condition.length() - 1));
        }
        List<String> sides = parts(condition, "=<>");
        long one = sum(sides.get(0));
        long other = sum(sides.get(1));
        char sign = condition.charAt(sides.get(0).length());
        return sign == '=' ? one == other : sign == '<' ? one < other : one > other;
    }

    private static long bounded(long value) {
        return Math.max(-1000000, Math.min(1000000, value));
    }

    private long sum(String text) {
        List<String> terms = parts(text, "+-");
        long value = product(terms.get(0));
        int at = terms.get(0).length();
        for (String term : terms.subList(1, terms.size())) {
            long more = product(term);
            value = bounded(text.charAt(at) == '+' ? value + more : value - more);
            at += 1 + term.length();
        }
        return value;
    }

    private long product(String text) {
        List<String> atoms = parts(text, "*");
        long value = atom(atoms.get(0));
        for (String atom : atoms.subList(1, atoms.size())) {
            value = bounded(value * atom(atom));
        }
        return value;
    }

    private long atom(String text) {
        if (text.startsWith("[")) {
            return sum(text.substring(1, text.length() - 1));
        }
        Integer value = letters.get(text.charAt(0));
        return value != null ? value : Long.parseLong(text);
    }
}
