import java.util.ArrayList;
import java.util.List;
import java.util.Random;

/** Texts for ModelTest: towers without a fault, and towers with a little changed in them. */
final class RandomTexts {
    private static final String[] OF_WEARS = {"rain", "stone", "beside", "year"};
    private static final String[] OF_SITS = {"unlike", "age", "stone", "family", "year"};
    private static final String[] ANY = {"gargoyle", "person", "orphan", "of", "rain", "certain", "wears", "sits",
        "or", "and", "not", "stone", "beside", "year", "unlike", "age", "family", "x", "rains", "no",
        ";", "(", ")", "+", "-", "*", "/", "<", "=", "0", "1", "9", "10", "99", "100", "9999", "10000", "00001",
        "0007", "#", "A", "\t", "\u00e9", "\n", " "};

    private final Random random;
    private int gargoyles;

    RandomTexts(Random random) {
        this.random = random;
    }

    int below(int n) {
        return random.nextInt(n);
    }

    private String pick(String[] from) {
        return from[below(from.length)];
    }

    String tower() {
        List<String> lines = new ArrayList<>();
        gargoyles = below(5) == 0 ? below(9) : 1 + below(4);
        for (int i = 0; i < gargoyles; i++) {
            int stone = below(6) == 0 ? 0 : below(3) == 0 ? below(100) : 1 + below(30);
            lines.add("gargoyle " + below(10) + " " + below(10) + " " + stone);
        }
        int people = below(5) == 0 ? below(9) : 1 + below(4);
        for (int i = 0; i < people; i++) {
            lines.add(person());
        }
        if (below(2) == 0) {
            StringBuilder rain = new StringBuilder("rain");
            for (int i = below(8); i >= 0; i--) {
                rain.append(' ').append(below(10));
            }
            lines.add(below(lines.size() + 1), rain.toString());
        }
        if (below(2) == 0) {
            lines.add(below(lines.size() + 1), "certain " + below(100));
        }
        if (below(2) == 0) {
            lines.add(below(lines.size() + 1), "wears " + expr(0, OF_WEARS));
        }
        if (below(2) == 0) {
            lines.add(below(lines.size() + 1), "sits " + expr(0, OF_SITS));
        }
        StringBuilder text = new StringBuilder();
        for (String line : lines) {
            text.append(line).append(below(4) == 0 ? " ;\n" : ";");
        }
        return text.length() > 700 ? tower() : text.toString();
    }

    private String person() {
        String line = (below(4) == 0 ? "orphan " : "person ") + below(10) + " " + below(10) + " " + below(100);
        return gargoyles > 0 && below(4) > 0 ? line + " of " + below(gargoyles) : line;
    }

    private String expr(int depth, String[] values) {
        String text = and(depth, values);
        return below(5) == 0 ? text + " or " + and(depth, values) : text;
    }

    private String and(int depth, String[] values) {
        String text = not(depth, values);
        return below(5) == 0 ? text + " and " + not(depth, values) : text;
    }

    private String not(int depth, String[] values) {
        if (below(8) == 0) {
            return "not ".repeat(1 + below(below(4) == 0 ? 7 : 2)) + test(depth, values);
        }
        return test(depth, values);
    }

    private String test(int depth, String[] values) {
        String text = sum(depth, values);
        return below(3) == 0 ? text + pick(new String[] {"<", "=", " < "}) + sum(depth, values) : text;
    }

    private String sum(int depth, String[] values) {
        StringBuilder text = new StringBuilder(product(depth, values));
        for (int i = below(3); i > 0; i--) {
            text.append(pick(new String[] {"+", "-"})).append(product(depth, values));
        }
        return text.toString();
    }

    private String product(int depth, String[] values) {
        StringBuilder text = new StringBuilder(part(depth, values));
        for (int i = below(5) / 3; i > 0; i--) {
            text.append(pick(new String[] {"*", "/"})).append(part(depth, values));
        }
        return text.toString();
    }

    private String part(int depth, String[] values) {
        int drawn = below(10);
        if (drawn < 2 && depth < 6) {
            return "(" + expr(depth + 1, values) + ")";
        }
        if (drawn < 5) {
            return String.valueOf(below(4) == 0 ? below(10000) : below(12));
        }
        return pick(values);
    }

    /** The text with one to three tokens put in, taken out or put in place of others. */
    String changed(String text) {
        StringBuilder changed = new StringBuilder(text);
        for (int i = below(3); i >= 0; i--) {
            int at = below(changed.length() + 1);
            int end = Math.min(changed.length(), at + below(6));
            switch (below(4)) {
                case 0 -> changed.insert(at, pick(ANY));
                case 1 -> changed.delete(at, end);
                case 2 -> changed.replace(at, end, " " + pick(ANY) + " ");
                default -> changed.setLength(at);
            }
        }
        changed.setLength(Math.min(changed.length(), 700));
        return changed.toString();
    }

    /** As many of everything as may be told, or one more, and lines told twice. */
    String crowded() {
        StringBuilder text = new StringBuilder();
        String word = pick(new String[] {"gargoyle 1 2 3", "person 1 2 3", "orphan 1 2 3", "rain 1", "certain 1",
            "wears 1", "sits 1"});
        text.append((word + ";").repeat(below(3) == 0 ? 1 : 8));
        text.append(below(2) == 0 ? word + ";" : "");
        text.append("rain").append(" 7".repeat(7 + below(3))).append(';');
        text.append(below(2) == 0 ? word + ";" : "person 1 1 1 of " + below(12) + ";");
        return text.toString();
    }

    /** Many levels, many 'not' side by side, and what may stand at their end. */
    String deep() {
        StringBuilder text = new StringBuilder(below(2) == 0 ? "wears " : "sits ");
        for (int i = 4 + below(5); i > 0; i--) {
            text.append(below(5) == 0 ? "not(" : below(6) == 0 ? "1+(" : "(");
        }
        text.append("not ".repeat(below(3) == 0 ? 5 + below(4) : 0)).append(pick(ANY));
        text.append(")".repeat(below(9))).append(';');
        return text.toString();
    }
}
