import java.util.ArrayList;
import java.util.List;
import java.util.function.ToIntFunction;
import java.util.regex.Matcher;
import java.util.regex.Pattern;

/** Texts as the document tells them, read the slow and plain way: all tokens first, then a tree of functions. */
final class OracleText {
    /** A world with the values of the names in it. */
    record Place(int world, int[] names) {
    }

    record Rule(int who, int cry, ToIntFunction<Place> condition) {
    }

    private record Token(int at, String text) {
    }

    /** The first fault; it ends the reading. */
    static final class Fault extends Exception {
        private static final long serialVersionUID = 1L;
        final int number;
        final int place;

        Fault(int number, int place) {
            this.number = number;
            this.place = place;
        }
    }

    private static final Pattern TOKEN = Pattern.compile(" *(u[0-9](?![0-9a-z])|[a-z]+|[0-9]+|[^ ])", Pattern.DOTALL);
    private static final List<String> WHO = List.of("finder", "owner", "ground", "halves", "crown");
    private static final List<String> NAMES =
        List.of("way", "place", "worth", "walled", "marks", "rare", "own", "age", "cried", "claims");

    private final List<Token> tokens = new ArrayList<>();
    private int next = 0;
    private int open = 0;

    OracleText(String text) {
        Matcher matcher = TOKEN.matcher(text);
        while (matcher.find()) {
            tokens.add(new Token(matcher.start(1), matcher.group(1)));
        }
        tokens.add(new Token(text.length(), ""));
    }

    private String peek() {
        return tokens.get(next).text;
    }

    private Fault fault(int number) {
        return new Fault(number, tokens.get(next).at);
    }

    private boolean take(String text) {
        boolean same = peek().equals(text);
        next += same ? 1 : 0;
        return same;
    }

    private void need(String text) throws Fault {
        if (!take(text)) {
            throw fault(1);
        }
    }

    List<Rule> law() throws Fault {
        List<Rule> rules = new ArrayList<>();
        while (!peek().isEmpty()) {
            int who = WHO.indexOf(peek());
            if (who < 0) {
                throw fault(1);
            }
            if (rules.size() == 12) {
                throw fault(3);
            }
            next++;
            int cry = take("cry") ? number() : 0;
            ToIntFunction<Place> condition = p -> 1;
            if (take("if")) {
                condition = or();
            }
            need(";");
            rules.add(new Rule(who, cry, condition));
        }
        return rules;
    }

    ToIntFunction<Place> condition() throws Fault {
        ToIntFunction<Place> condition = or();
        need(";");
        if (!peek().isEmpty()) {
            throw fault(1);
        }
        return condition;
    }

    private int number() throws Fault {
        if (!peek().matches("[0-9]+")) {
            throw fault(1);
        }
        String digits = peek().replaceFirst("^0+", "");
        if (digits.length() > 4) {
            throw fault(2);
        }
        next++;
        return digits.isEmpty() ? 0 : Integer.parseInt(digits);
    }

    private ToIntFunction<Place> or() throws Fault {
        ToIntFunction<Place> left = and();
        while (take("or")) {
            ToIntFunction<Place> before = left;
            ToIntFunction<Place> right = and();
            left = p -> before.applyAsInt(p) | right.applyAsInt(p);
        }
        return left;
    }

    private ToIntFunction<Place> and() throws Fault {
        ToIntFunction<Place> left = basic();
        while (take("and")) {
            ToIntFunction<Place> before = left;
            ToIntFunction<Place> right = basic();
            left = p -> before.applyAsInt(p) & right.applyAsInt(p);
        }
        return left;
    }

    private void opens() throws Fault {
        if (open == 6) {
            throw fault(3);
        }
        open++;
        next++;
    }

    private ToIntFunction<Place> basic() throws Fault {
        if (peek().equals("not")) {
            opens();
            ToIntFunction<Place> turned = basic();
            open--;
            return p -> 1 - turned.applyAsInt(p);
        }
        if (peek().equals("[")) {
            opens();
            ToIntFunction<Place> inside = or();
            need("]");
            open--;
            return inside;
        }
        if (peek().matches("u[0-9]")) {
            int unknown = peek().charAt(1) - '0';
            next++;
            return p -> p.world >> unknown & 1;
        }
        ToIntFunction<Place> left = sum();
        String relation = peek();
        if (!relation.matches("[<>=]")) {
            throw fault(1);
        }
        next++;
        ToIntFunction<Place> right = sum();
        return p -> {
            int a = left.applyAsInt(p);
            int b = right.applyAsInt(p);
            return (relation.equals("<") ? a < b : relation.equals(">") ? a > b : a == b) ? 1 : 0;
        };
    }

    private ToIntFunction<Place> sum() throws Fault {
        ToIntFunction<Place> left = term();
        while (peek().equals("+") || peek().equals("-")) {
            int sign = take("+") ? 1 : -1;
            next += sign < 0 ? 1 : 0;
            ToIntFunction<Place> before = left;
            ToIntFunction<Place> right = term();
            left = p -> before.applyAsInt(p) + sign * right.applyAsInt(p);
        }
        return left;
    }

    private ToIntFunction<Place> term() throws Fault {
        if (peek().equals("(")) {
            opens();
            ToIntFunction<Place> inside = sum();
            need(")");
            open--;
            return inside;
        }
        int name = NAMES.indexOf(peek());
        if (name >= 0) {
            next++;
            return p -> p.names[name];
        }
        int number = number();
        return p -> number;
    }
}
