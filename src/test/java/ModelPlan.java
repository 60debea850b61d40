import java.util.ArrayList;
import java.util.List;

/** The plan's language for the Model: all tokens first, then a tree of functions. */
final class ModelPlan {
    static final class Fault extends RuntimeException {
        private static final long serialVersionUID = 1;
        final int kind;
        final int place;

        Fault(int kind, int place) {
            this.kind = kind;
            this.place = place;
        }
    }

    static final class Trial {
        boolean triangle;
        final List<int[]> looks = new ArrayList<>();
    }

    interface Test {
        boolean holds(Model model);
    }

    interface Sum {
        long of(Model model);
    }

    private static final class Token {
        final String text;
        final int at;

        Token(String text, int at) {
            this.text = text;
            this.at = at;
        }
    }

    private static final List<String> OWN = List.of("product", "triangle", "against", "pair", "look", "below", "in",
        "ties", "half", "drop", "lose", "scale", "own", "raw", "reference", "claim", "when", "or", "and", "not", "open",
        "right", "wrong", "tied", "chance", "least", "most", "mean", "drift", "min", "max", "stopped");

    int statements;
    final List<String> products = new ArrayList<>();
    final List<String> claims = new ArrayList<>();
    final List<Trial> trials = new ArrayList<>();
    final List<Test> tests = new ArrayList<>();
    String ties = "drop";
    boolean own;
    int reference = -1;

    private final List<Token> tokens = new ArrayList<>();
    private int next;
    private int depth;

    void read(String text) {
        split(text);
        while (!is("")) {
            statement();
            take(";");
            statements++;
        }
    }

    /** A token that lacks its blank is told apart by a text that nothing asks for. */
    private void split(String text) {
        java.util.regex.Matcher matcher =
            java.util.regex.Pattern.compile("[A-Za-z]+|[0-9]+|[^ \n]", java.util.regex.Pattern.DOTALL).matcher(text);
        int end = -1;
        boolean whole = false;
        while (matcher.find()) {
            boolean wholeNow = matcher.group().matches("[A-Za-z0-9]+");
            tokens.add(new Token(whole && wholeNow && end == matcher.start() ? "?" : matcher.group(), matcher.start()));
            end = matcher.end();
            whole = wholeNow;
        }
        tokens.add(new Token("", text.length()));
    }

    private Token now() {
        return tokens.get(Math.min(next, tokens.size() - 1));
    }

    private boolean is(String text) {
        return now().text.equals(text);
    }

    private boolean isOneOf(String... texts) {
        return List.of(texts).contains(now().text);
    }

    private Fault wrong() {
        return new Fault(1, now().at);
    }

    private String take(String... texts) {
        if (!isOneOf(texts)) {
            throw wrong();
        }
        return tokens.get(next++).text;
    }

    private boolean accept(String text) {
        if (is(text)) {
            next++;
            return true;
        }
        return false;
    }

    private void limit(boolean full) {
        if (full) {
            throw new Fault(5, now().at);
        }
    }

    private String name() {
        String text = now().text;
        if (!text.matches("[A-Za-z]+") || OWN.contains(text)) {
            throw wrong();
        }
        if (text.length() > 6) {
            throw new Fault(1, now().at + 6);
        }
        next++;
        return text;
    }

    private String newName() {
        int at = now().at;
        String name = name();
        if (products.contains(name) || claims.contains(name)) {
            throw new Fault(3, at);
        }
        return name;
    }

    private int product(int unlike) {
        int at = now().at;
        int product = products.indexOf(name());
        if (product < 0 || product == unlike) {
            throw new Fault(3, at);
        }
        return product;
    }

    private int number(int least, int most) {
        String text = now().text;
        if (!text.matches("[0-9]+")) {
            throw wrong();
        }
        if (text.length() > 4) {
            throw new Fault(1, now().at + 4);
        }
        int number = Integer.parseInt(text);
        if (number < least || number > most) {
            throw new Fault(2, now().at);
        }
        next++;
        return number;
    }

    private void statement() {
        String word = now().text;
        if (word.equals("product")) {
            limit(products.size() == 6);
            next++;
            products.add(newName());
        } else if (word.equals("triangle") || word.equals("pair")) {
            limit(trials.size() == 4);
            next++;
            int first = product(-1);
            take("against");
            product(first);
            Trial trial = new Trial();
            trial.triangle = word.equals("triangle");
            trials.add(trial);
        } else if (word.equals("look") && !trials.isEmpty()) {
            look(trials.get(trials.size() - 1).looks);
        } else if (word.equals("ties")) {
            next++;
            ties = take("half", "drop", "lose");
        } else if (word.equals("scale")) {
            next++;
            own = take("own", "raw").equals("own");
        } else if (word.equals("reference")) {
            next++;
            reference = product(-1);
        } else if (word.equals("claim")) {
            limit(claims.size() == 8);
            next++;
            claims.add(newName());
            take("when");
            tests.add(test());
        } else {
            throw wrong();
        }
    }

    private void look(List<int[]> looks) {
        limit(looks.size() == 5);
        next++;
        int at = number(looks.isEmpty() ? 1 : looks.get(looks.size() - 1)[0] + 1, 30);
        take("below");
        int first = number(1, 1000);
        take("in");
        looks.add(new int[] {at, first, number(first, 1000)});
    }

    private Test test() {
        Test left = both();
        while (accept("or")) {
            Test a = left;
            Test b = both();
            left = model -> a.holds(model) || b.holds(model);
        }
        return left;
    }

    private Test both() {
        Test left = fact();
        while (accept("and")) {
            Test a = left;
            Test b = fact();
            left = model -> a.holds(model) && b.holds(model);
        }
        return left;
    }

    private void opening() {
        if (++depth > 6) {
            throw new Fault(4, now().at);
        }
        next++;
    }

    private Test fact() {
        if (is("not")) {
            opening();
            Test inner = fact();
            depth--;
            return model -> !inner.holds(model);
        }
        if (is("[")) {
            opening();
            Test inner = test();
            take("]");
            depth--;
            return inner;
        }
        if (accept("stopped")) {
            int trial = number(0, trials.size() - 1);
            return model -> model.measure(trial, 5) != 0;
        }
        Sum a = sum();
        String sign = take("<", ">", "=");
        Sum b = sum();
        return model -> {
            int order = Long.compare(a.of(model), b.of(model));
            return sign.equals("<") ? order < 0 : sign.equals(">") ? order > 0 : order == 0;
        };
    }

    private static long bound(long value) {
        return value > 1000000000 ? 1000000000 : value < -1000000000 ? -1000000000 : value;
    }

    private Sum sum() {
        Sum left = productOf();
        while (isOneOf("+", "-")) {
            boolean plus = take("+", "-").equals("+");
            Sum a = left;
            Sum b = productOf();
            left = model -> bound(plus ? a.of(model) + b.of(model) : a.of(model) - b.of(model));
        }
        return left;
    }

    private Sum productOf() {
        Sum left = part();
        while (isOneOf("*", "/")) {
            boolean times = take("*", "/").equals("*");
            Sum a = left;
            Sum b = part();
            left = model -> times ? bound(a.of(model) * b.of(model)) : quotient(a.of(model), b.of(model));
        }
        return left;
    }

    private static long quotient(long a, long b) {
        return b == 0 ? 0 : (long) Math.floor((double) a / b);
    }

    private Sum part() {
        if (now().text.matches("[0-9]+")) {
            int number = number(0, 9999);
            return model -> number;
        }
        if (is("(")) {
            opening();
            Sum inner = sum();
            take(")");
            depth--;
            return inner;
        }
        String word = take("min", "max", "mean", "drift", "right", "wrong", "tied", "chance", "least", "most");
        switch (word) {
            case "mean":
                int product = product(-1);
                return model -> model.meanOf(product);
            case "drift":
                int session = number(0, 9);
                return model -> model.driftInTest(session);
            case "min":
            case "max":
                return choice(word.equals("min"));
            default:
                int what = List.of("right", "wrong", "tied", "", "", "", "", "least", "most", "chance").indexOf(word);
                int trial = number(0, trials.size() - 1);
                return model -> model.measure(trial, what);
        }
    }

    private Sum choice(boolean least) {
        if (!is("(")) {
            throw wrong();
        }
        opening();
        Sum a = sum();
        take(",");
        Sum b = sum();
        take(")");
        depth--;
        return model -> least ? Math.min(a.of(model), b.of(model)) : Math.max(a.of(model), b.of(model));
    }
}
