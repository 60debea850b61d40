import java.util.ArrayList;
import java.util.List;
import java.util.Random;

/** Random plans: most go, some have a fault. */
final class PlanText {
    private static final String[] NAMES = {"a", "b", "c", "tea", "Cup", "abcdef", "x", "yy", "zzz", "k"};
    private static final String[] SCRAPS = {"product", "triangle", "against", "pair", "look", "below", "in", "ties",
        "half", "scale", "own", "reference", "claim", "when", "or", "and", "not", "open", "right", "min", "(", ")", "[", "]",
        ",", ";", "<", "+", "*", "0", "1", "31", "12345", "9999", "abcdefg", "productx", "a", "?", "\n", " ", "stopped"};

    private final Random random;
    private final StringBuilder text = new StringBuilder();
    private final List<String> products = new ArrayList<>();
    private int trials;
    private int lookAt;
    private int looks;
    private int claims;

    PlanText(Random random) {
        this.random = random;
    }

    String make() {
        int statements = random.nextInt(24);
        product();
        product();
        trial();
        for (int i = 0; i < statements; i++) {
            int before = text.length();
            statement();
            if (text.length() > 690) {
                text.setLength(before);
                break;
            }
        }
        if (random.nextInt(3) == 0) {
            spoil();
        }
        return text.length() > 700 ? text.substring(0, 700) : text.toString();
    }

    private String pick(String... texts) {
        return texts[random.nextInt(texts.length)];
    }

    private int upTo(int most) {
        return random.nextInt(most + 1);
    }

    private void put(String... parts) {
        for (String part : parts) {
            boolean needsBlank = text.length() > 0 && Character.isLetterOrDigit(text.charAt(text.length() - 1))
                && Character.isLetterOrDigit(part.charAt(0));
            if (needsBlank || random.nextInt(4) == 0) {
                text.append(random.nextInt(5) == 0 ? '\n' : ' ');
            }
            text.append(part);
        }
    }

    private void statement() {
        switch (random.nextInt(12)) {
            case 0: product(); break;
            case 1: trial(); break;
            case 2:
            case 3:
            case 4: look(); break;
            case 5: put("ties", pick("half", "drop", "lose"), ";"); break;
            case 6: put("scale", pick("own", "own", "raw"), ";"); break;
            case 7: put("reference", products.get(random.nextInt(products.size())), ";"); break;
            default: claim(); break;
        }
    }

    private void product() {
        String name = NAMES[products.size() % NAMES.length];
        if (products.size() == 6 && random.nextInt(10) > 0) {
            return;
        }
        products.add(name);
        put("product", name, ";");
    }

    private void trial() {
        if (trials == 4 && random.nextInt(10) > 0) {
            return;
        }
        int first = random.nextInt(products.size());
        int second = (first + 1 + random.nextInt(products.size() - 1)) % products.size();
        put(pick("triangle", "pair"), products.get(first), "against", products.get(second), ";");
        trials++;
        lookAt = 0;
        looks = 0;
    }

    private void look() {
        if ((looks == 5 || lookAt >= 28) && random.nextInt(10) > 0) {
            return;
        }
        lookAt += 1 + random.nextInt(4);
        looks++;
        int whole = 1 + random.nextInt(1000);
        int part = 1 + random.nextInt(whole);
        put("look", "" + lookAt, "below", "" + part, "in", "" + whole, ";");
    }

    private void claim() {
        if (claims == 8 && random.nextInt(10) > 0) {
            return;
        }
        put("claim", "cl" + (char) ('a' + claims++), "when");
        test(random.nextInt(6) == 0 ? 5 : 2);
        put(";");
    }

    private void test(int depth) {
        fact(depth);
        for (int i = random.nextInt(3); i > 0; i--) {
            put(pick("or", "and"));
            fact(depth);
        }
    }

    private void fact(int depth) {
        int choice = random.nextInt(8);
        if (choice == 0) {
            put("not");
            fact(depth);
        } else if (choice == 1 && depth > 0) {
            put("[");
            test(depth - 1);
            put("]");
        } else if (choice == 2) {
            put("stopped", "" + random.nextInt(trials));
        } else {
            sum(depth);
            put(pick("<", ">", "="));
            sum(depth);
        }
    }

    private void sum(int depth) {
        part(depth);
        for (int i = random.nextInt(3); i > 0; i--) {
            put(pick("+", "-", "*", "/"));
            part(depth);
        }
    }

    private void part(int depth) {
        int choice = random.nextInt(depth > 0 ? 9 : 7);
        if (choice < 2) {
            put(pick("0", "1", "2", "5", "500", "9999", "0010"));
        } else if (choice < 5) {
            put(pick("right", "wrong", "tied", "chance", "least", "most"), "" + random.nextInt(trials));
        } else if (choice == 5) {
            put("mean", products.get(random.nextInt(products.size())));
        } else if (choice == 6) {
            put("drift", "" + upTo(9));
        } else if (choice == 7) {
            put("(");
            sum(depth - 1);
            put(")");
        } else {
            put(pick("min", "max"), "(");
            sum(depth - 1);
            put(",");
            sum(depth - 1);
            put(")");
        }
    }

    /** The first match behind a place gives way to another text. */
    private void replace(int from, String pattern, String by) {
        java.util.regex.Matcher matcher = java.util.regex.Pattern.compile(pattern).matcher(text);
        if (matcher.find(from)) {
            text.replace(matcher.start(), matcher.end(), by);
        }
    }

    private void spoil() {
        int at = random.nextInt(text.length());
        switch (random.nextInt(7)) {
            case 4: replace(at, "[0-9]+", pick("0", "1", "3", "5", "9", "10", "30", "31", "1000", "1001", "00001")); break;
            case 5: replace(at, "[A-Za-z]+", pick(NAMES)); break;
            case 6: replace(at, "\\(|\\[|not", pick("((((((", "[[[[[[", "not not not not ", "(((", "not [ not")); break;
            case 0: text.setLength(at); break;
            case 1: text.deleteCharAt(at); break;
            case 2: text.insert(at, pick(SCRAPS)); break;
            default: text.insert(at, " " + pick(SCRAPS) + " "); break;
        }
    }
}
