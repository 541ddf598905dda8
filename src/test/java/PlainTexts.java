import java.util.ArrayList;
import java.util.List;
import java.util.Random;

/** Texts of ACTS and PAY that grow by chance, each with its sense: a tree that is asked, not a text that is read. */
final class PlainTexts {
    private static final long MILLION = 1000000;

    interface Sum {
        long of(int[] letters);
    }

    interface Condition {
        boolean holds(int[] letters);
    }

    record Grown<T>(String text, T sense) {
    }

    private final Random random;
    private final String letters;

    PlainTexts(Random random, String letters) {
        this.random = random;
        this.letters = letters;
    }

    private static long bounded(long value) {
        return Math.max(-MILLION, Math.min(MILLION, value));
    }

    private String blank() {
        return random.nextInt(6) == 0 ? " " : "";
    }

    /** An ACT: what it tells is 0 .. 3. */
    Grown<Sum> act() {
        StringBuilder text = new StringBuilder();
        List<Condition> conditions = new ArrayList<>();
        List<Integer> verdicts = new ArrayList<>();
        for (int i = random.nextInt(4); i >= 0; i--) {
            Grown<Condition> condition = condition(2);
            int verdict = random.nextInt(4);
            conditions.add(condition.sense());
            verdicts.add(verdict);
            text.append(condition.text()).append("?").append(blank()).append("xnrt".charAt(verdict)).append(i > 0 ? ";" : "");
        }
        return new Grown<>(text.toString(), values -> {
            for (int i = 0; i < conditions.size(); i++) {
                if (conditions.get(i).holds(values)) {
                    return verdicts.get(i);
                }
            }
            return 0;
        });
    }

    Grown<Sum> pay() {
        StringBuilder text = new StringBuilder();
        List<Condition> conditions = new ArrayList<>();
        List<Sum> sums = new ArrayList<>();
        for (int i = random.nextInt(4); i >= 0; i--) {
            boolean plain = random.nextInt(4) == 0;
            Grown<Condition> condition = plain ? new Grown<>("", values -> true) : condition(2);
            Grown<Sum> sum = sum(2);
            conditions.add(condition.sense());
            sums.add(sum.sense());
            text.append(condition.text()).append(plain ? "" : "?").append(sum.text()).append(i > 0 ? ";" : "");
        }
        return new Grown<>(text.toString(), values -> {
            for (int i = 0; i < conditions.size(); i++) {
                if (conditions.get(i).holds(values)) {
                    return Math.max(0, Math.min(10000, sums.get(i).of(values)));
                }
            }
            return 0;
        });
    }

    private Grown<Condition> condition(int deep) {
        Grown<Condition> all = part(deep);
        for (int i = random.nextInt(3); i > 0; i--) {
            Grown<Condition> one = all;
            Grown<Condition> other = part(deep);
            all = new Grown<>(one.text() + "|" + blank() + other.text(),
                values -> one.sense().holds(values) || other.sense().holds(values));
        }
        return all;
    }

    private Grown<Condition> part(int deep) {
        Grown<Condition> all = unit(deep);
        for (int i = random.nextInt(5) / 3; i > 0; i--) {
            Grown<Condition> one = all;
            Grown<Condition> other = unit(deep);
            all = new Grown<>(one.text() + blank() + "&" + other.text(),
                values -> one.sense().holds(values) && other.sense().holds(values));
        }
        return all;
    }

    private Grown<Condition> unit(int deep) {
        int kind = random.nextInt(deep > 0 ? 6 : 4);
        if (kind == 5) {
            Grown<Condition> held = unit(deep - 1);
            return new Grown<>("!" + held.text(), values -> !held.sense().holds(values));
        }
        if (kind == 4) {
            Grown<Condition> held = condition(deep - 1);
            return new Grown<>("(" + held.text() + ")", held.sense());
        }
        Grown<Sum> one = sum(deep);
        Grown<Sum> other = sum(0);
        int sign = random.nextInt(3);
        String text = one.text() + "=<>".charAt(sign) + other.text();
        return new Grown<>(text, values -> {
            int order = Long.compare(one.sense().of(values), other.sense().of(values));
            return sign == 0 ? order == 0 : sign == 1 ? order < 0 : order > 0;
        });
    }

    private Grown<Sum> sum(int deep) {
        Grown<Sum> all = term(deep);
        for (int i = random.nextInt(3); i > 0; i--) {
            Grown<Sum> one = all;
            Grown<Sum> other = term(deep);
            boolean more = random.nextBoolean();
            all = new Grown<>(one.text() + (more ? "+" : "-") + blank() + other.text(), values -> {
                long right = other.sense().of(values);
                return bounded(one.sense().of(values) + (more ? right : -right));
            });
        }
        return all;
    }

    private Grown<Sum> term(int deep) {
        Grown<Sum> all = atom(deep);
        for (int i = random.nextInt(5) / 4 * (1 + random.nextInt(3)); i > 0; i--) {
            Grown<Sum> one = all;
            Grown<Sum> other = atom(deep);
            all = new Grown<>(one.text() + "*" + other.text(),
                values -> bounded(one.sense().of(values) * other.sense().of(values)));
        }
        return all;
    }

    private Grown<Sum> atom(int deep) {
        int kind = random.nextInt(deep > 0 ? 7 : 6);
        if (kind == 6) {
            Grown<Sum> held = sum(deep - 1);
            return new Grown<>("[" + held.text() + "]", held.sense());
        }
        if (kind < 2) {
            int value = random.nextInt(8) == 0 ? random.nextInt(10000) : random.nextInt(7);
            return new Grown<>(String.valueOf(value), values -> value);
        }
        int letter = random.nextInt(letters.length());
        return new Grown<>(String.valueOf(letters.charAt(letter)), values -> values[letter]);
    }
}
