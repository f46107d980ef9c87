import java.util.ArrayList;
import java.util.List;
import java.util.Set;
import java.util.function.ToIntFunction;
import java.util.regex.Matcher;
import java.util.regex.Pattern;

/** Reads a CITY for the model: all TOKENS first, then the lines, ending at the first FAULT by an exception. */
final class ModelReader {
    private static final Set<String> OWN = Set.of("craft", "needs", "loss", "man", "of", "loaves", "debt", "others", "out",
        "demand", "cost", "worth", "back", "foes", "raid", "draw", "or", "and", "not", "gone", "days", "short");
    private static final Pattern PIECE = Pattern.compile("([ \n]+)|([a-z]+)|([0-9]+)([a-z]?)|([;()<>=+\\-*/%])|([\\s\\S])");

    /** A TOKEN: a word, a number, a sign, "" at the end, or null if it is none. */
    record Token(String text, int place) {
        boolean isNumber() {
            return text != null && !text.isEmpty() && Character.isDigit(text.charAt(0));
        }

        boolean isName() {
            return text != null && !text.isEmpty() && Character.isLetter(text.charAt(0)) && !OWN.contains(text);
        }
    }

    static final class Fault extends Exception {
        private static final long serialVersionUID = 1;
        final int number;
        final int place;

        Fault(int number, int place) {
            this.number = number;
            this.place = place;
        }
    }

    private final List<Token> tokens = new ArrayList<>();
    private final Model.Told told = new Model.Told();
    private int at;
    int fault;
    int place = -1;

    ModelReader(String text) {
        Matcher piece = PIECE.matcher(text);
        int from = 0;
        while (from < text.length() && piece.find(from)) {
            from = piece.end();
            if (piece.group(2) != null) {
                tokens.add(new Token(piece.group(2).length() > 8 ? null : piece.group(2), piece.start()));
            } else if (piece.group(3) != null) {
                boolean good = piece.group(3).length() <= 4 && piece.group(4).isEmpty();
                tokens.add(new Token(good ? piece.group(3) : null, piece.start()));
                from = piece.end(3);
            } else if (piece.group(5) != null) {
                tokens.add(new Token(piece.group(5), piece.start()));
            } else if (piece.group(6) != null) {
                tokens.add(new Token(null, piece.start()));
            }
        }
        tokens.add(new Token("", text.length()));
    }

    Model.Told read() {
        try {
            while (!"".equals(here().text())) {
                line();
            }
            return told;
        } catch (Fault f) {
            fault = f.number;
            place = f.place;
            return null;
        }
    }

    private Token here() throws Fault {
        Token token = tokens.get(at);
        if (token.text() == null) {
            throw new Fault(1, token.place());
        }
        return token;
    }

    private boolean is(String text) throws Fault {
        return here().text().equals(text);
    }

    private void require(boolean so, int number) throws Fault {
        if (!so) {
            throw new Fault(number, here().place());
        }
    }

    private void take(String text) throws Fault {
        require(is(text), 2);
        at++;
    }

    private int number(String word, int most) throws Fault {
        take(word);
        require(here().isNumber(), 2);
        int number = Integer.parseInt(here().text());
        require(number <= most, 4);
        at++;
        return number;
    }

    private String name(List<String> told) throws Fault {
        require(here().isName(), 2);
        require(!told.contains(here().text()), 3);
        return tokens.get(at++).text();
    }

    private void line() throws Fault {
        String first = here().text();
        switch (first) {
            case "craft" -> craft();
            case "man" -> man();
            case "demand" -> demand();
            case "back", "foes", "draw" -> {
                require(!told.once.contains(first), 2);
                told.once.add(first);
                if (first.equals("back")) {
                    at++;
                    told.back = either(0);
                } else if (first.equals("foes")) {
                    told.foes = number("foes", 100);
                    told.raid = number("raid", 999);
                } else {
                    told.draw = number("draw", 999);
                }
            }
            default -> require(false, 2);
        }
        take(";");
    }

    private void craft() throws Fault {
        require(told.crafts.size() < 4, 2);
        at++;
        String name = name(told.crafts.stream().map(Model.Craft::name).toList());
        told.crafts.add(new Model.Craft(name, number("needs", 7), number("loss", 99)));
    }

    private void man() throws Fault {
        require(told.men.size() < 7, 2);
        at++;
        String name = name(told.men.stream().map(Model.Man::name).toList());
        take("of");
        List<String> names = told.crafts.stream().map(Model.Craft::name).toList();
        List<Integer> crafts = new ArrayList<>();
        do {
            require(here().isName(), 2);
            int craft = names.indexOf(here().text());
            require(craft >= 0, 5);
            require(!crafts.contains(craft), 3);
            crafts.add(craft);
            at++;
        } while (here().isName());
        int loaves = number("loaves", 20);
        int debt = number("debt", 99);
        int others = is("others") ? number("others", 6) : 0;
        boolean out = is("out");
        at += out ? 1 : 0;
        told.men.add(new Model.Man(name, crafts, loaves, debt, others, out));
    }

    private void demand() throws Fault {
        require(told.demands.size() < 5, 2);
        at++;
        String name = name(told.demands.stream().map(Model.Demand::name).toList());
        told.demands.add(new Model.Demand(name, number("cost", 999), number("worth", 99)));
    }

    private ToIntFunction<Model.Known> either(int depth) throws Fault {
        ToIntFunction<Model.Known> left = both(depth);
        while (is("or")) {
            at++;
            ToIntFunction<Model.Known> before = left;
            ToIntFunction<Model.Known> right = both(depth);
            left = k -> before.applyAsInt(k) != 0 | right.applyAsInt(k) != 0 ? 1 : 0;
        }
        return left;
    }

    private ToIntFunction<Model.Known> both(int depth) throws Fault {
        ToIntFunction<Model.Known> left = one(depth);
        while (is("and")) {
            at++;
            ToIntFunction<Model.Known> before = left;
            ToIntFunction<Model.Known> right = one(depth);
            left = k -> before.applyAsInt(k) != 0 & right.applyAsInt(k) != 0 ? 1 : 0;
        }
        return left;
    }

    private ToIntFunction<Model.Known> one(int depth) throws Fault {
        if (is("not")) {
            require(depth < 7, 2);
            at++;
            ToIntFunction<Model.Known> behind = one(depth + 1);
            return k -> behind.applyAsInt(k) == 0 ? 1 : 0;
        }
        ToIntFunction<Model.Known> left = sum(depth);
        if (is("<") || is(">") || is("=")) {
            String sign = tokens.get(at++).text();
            ToIntFunction<Model.Known> right = sum(depth);
            return k -> {
                int compared = Integer.compare(left.applyAsInt(k), right.applyAsInt(k));
                return compared == (sign.equals("<") ? -1 : sign.equals(">") ? 1 : 0) ? 1 : 0;
            };
        }
        return left;
    }

    private ToIntFunction<Model.Known> sum(int depth) throws Fault {
        ToIntFunction<Model.Known> left = term(depth);
        while (is("+") || is("-")) {
            int sign = tokens.get(at++).text().equals("+") ? 1 : -1;
            ToIntFunction<Model.Known> before = left;
            ToIntFunction<Model.Known> right = term(depth);
            left = k -> before.applyAsInt(k) + sign * right.applyAsInt(k);
        }
        return left;
    }

    private ToIntFunction<Model.Known> term(int depth) throws Fault {
        ToIntFunction<Model.Known> left = unit(depth);
        while (is("*") || is("/") || is("%")) {
            char sign = tokens.get(at++).text().charAt(0);
            ToIntFunction<Model.Known> before = left;
            ToIntFunction<Model.Known> right = unit(depth);
            left = k -> {
                long a = before.applyAsInt(k);
                long b = right.applyAsInt(k);
                return (int) (sign == '*' ? a * b : b == 0 ? 0 : sign == '/' ? a / b : a % b);
            };
        }
        return left;
    }

    private ToIntFunction<Model.Known> unit(int depth) throws Fault {
        Token token = here();
        Set<String> known = Set.of("loaves", "debt", "others", "gone", "days", "short");
        require(token.isNumber() || known.contains(token.text()) || is("("), 2);
        require(told.units < 30, 2);
        told.units++;
        if (is("(")) {
            require(depth < 7, 2);
            at++;
            ToIntFunction<Model.Known> inside = either(depth + 1);
            take(")");
            return inside;
        }
        at++;
        if (token.isNumber()) {
            int number = Integer.parseInt(token.text());
            return k -> number;
        }
        return switch (token.text()) {
            case "loaves" -> Model.Known::loaves;
            case "debt" -> Model.Known::debt;
            case "others" -> Model.Known::others;
            case "gone" -> Model.Known::gone;
            case "days" -> Model.Known::days;
            default -> Model.Known::shorts;
        };
    }
}
