import java.util.ArrayList;
import java.util.Collections;
import java.util.List;
import java.util.Random;

/** Texts of CITIES, sound and faulty, drawn from a told number. */
final class Cities {
    private static final String[] NAMES = {"a", "b", "bread", "wall", "hay", "ann", "bob", "cid", "dan", "abcdefgh", "e", "x"};
    private static final String[] PIECES = {"craft", "needs", "loss", "man", "of", "loaves", "debt", "others", "out", "demand",
        "cost", "worth", "back", "foes", "raid", "draw", "or", "and", "not", "gone", "days", "short", ";", "(", ")", "<", ">", "=",
        "+", "-", "*", "/", "%", "0", "1", "7", "8", "20", "21", "99", "100", "101", "999", "1000", "9999", "10000", "1x", "$",
        "abcdefghi", "a", "ann", "bread", "\t", "A", "\u00ff", ""};

    private final Random random;

    Cities(Random random) {
        this.random = random;
    }

    private int upTo(int most) {
        return random.nextInt(most + 1);
    }

    private boolean oneOf(int n) {
        return random.nextInt(n) == 0;
    }

    private List<String> names(int count) {
        List<String> names = new ArrayList<>(List.of(NAMES));
        Collections.shuffle(names, random);
        return names.subList(0, count);
    }

    /** A sound text, as TOKENS. */
    List<String> tokens() {
        List<List<String>> lines = new ArrayList<>();
        int crafts = oneOf(12) ? 0 : 1 + upTo(3);
        List<String> craftNames = names(crafts);
        for (String name : craftNames) {
            int needs = oneOf(8) ? upTo(7) : upTo(3);
            lines.add(line("craft", name, "needs", "" + needs, "loss", "" + (oneOf(6) ? 0 : upTo(99)), ";"));
        }
        int men = crafts == 0 ? 0 : oneOf(4) ? 7 : upTo(7);
        for (String name : names(men)) {
            lines.add(man(name, craftNames));
        }
        for (String name : names(upTo(5))) {
            int cost = oneOf(4) ? upTo(999) : oneOf(8) ? 0 : upTo(99);
            lines.add(line("demand", name, "cost", "" + cost, "worth", "" + upTo(oneOf(2) ? 5 : 99), ";"));
        }
        if (oneOf(2)) {
            List<String> back = line("back");
            formula(back, oneOf(4) ? 5 : 2);
            back.add(";");
            lines.add(upTo(lines.size()), back);
        }
        if (!oneOf(3)) {
            lines.add(upTo(lines.size()), line("foes", "" + upTo(100), "raid", "" + upTo(oneOf(2) ? 99 : 999), ";"));
        }
        if (!oneOf(3)) {
            lines.add(upTo(lines.size()), line("draw", "" + upTo(999), ";"));
        }
        List<String> tokens = new ArrayList<>();
        lines.forEach(tokens::addAll);
        return tokens;
    }

    private static List<String> line(String... tokens) {
        return new ArrayList<>(List.of(tokens));
    }

    private List<String> man(String name, List<String> craftNames) {
        List<String> man = line("man", name, "of");
        List<String> of = new ArrayList<>(craftNames);
        Collections.shuffle(of, random);
        man.addAll(of.subList(0, oneOf(3) ? 1 + upTo(of.size() - 1) : 1));
        man.addAll(line("loaves", "" + upTo(oneOf(3) ? 20 : 4), "debt", "" + upTo(99)));
        if (oneOf(2)) {
            man.addAll(line("others", "" + upTo(oneOf(4) ? 6 : 3)));
        }
        if (oneOf(3)) {
            man.add("out");
        }
        man.add(";");
        return man;
    }

    private void formula(List<String> to, int depth) {
        for (int or = 0; or == 0 || or < 3 && oneOf(4); or++) {
            if (or > 0) {
                to.add("or");
            }
            for (int and = 0; and == 0 || and < 3 && oneOf(4); and++) {
                if (and > 0) {
                    to.add("and");
                }
                while (oneOf(5)) {
                    to.add("not");
                }
                sum(to, depth);
                if (!oneOf(3)) {
                    to.add("<>=".substring(upTo(2)).substring(0, 1));
                    sum(to, depth);
                }
            }
        }
    }

    private void sum(List<String> to, int depth) {
        unit(to, depth);
        for (int i = 0; i < 3 && oneOf(3); i++) {
            to.add("+-*/%+-".substring(upTo(6)).substring(0, 1));
            unit(to, depth);
        }
    }

    private void unit(List<String> to, int depth) {
        if (depth > 0 && oneOf(4)) {
            to.add("(");
            formula(to, depth - 1);
            to.add(")");
        } else if (oneOf(3)) {
            to.add("" + (oneOf(8) ? upTo(9999) : upTo(6)));
        } else {
            to.add(new String[] {"loaves", "debt", "others", "gone", "days", "short"}[upTo(5)]);
        }
    }

    /** Some TOKENS are left out, doubled, put in, or put in the place of others. */
    private void spoil(List<String> tokens) {
        for (int i = upTo(2); i >= 0 && !tokens.isEmpty(); i--) {
            int at = random.nextInt(tokens.size());
            String other = oneOf(3) ? tokens.get(random.nextInt(tokens.size())) : PIECES[random.nextInt(PIECES.length)];
            switch (upTo(3)) {
                case 0 -> tokens.remove(at);
                case 1 -> tokens.add(at, tokens.get(at));
                case 2 -> tokens.add(at, other);
                default -> tokens.set(at, other);
            }
        }
    }

    /** TOKENS are put together with blanks, which may miss between a sign and what is not one. */
    private String joined(List<String> tokens) {
        StringBuilder text = new StringBuilder();
        boolean wide = oneOf(3);
        for (String token : tokens) {
            boolean glues = text.length() > 0 && !token.isEmpty()
                && (isSign(token.charAt(0)) || isSign(text.charAt(text.length() - 1)));
            if (!glues || wide && oneOf(2)) {
                text.append(oneOf(10) ? '\n' : ' ');
            }
            text.append(token);
        }
        return text.toString();
    }

    private static boolean isSign(char c) {
        return ";()<>=+-*/%".indexOf(c) >= 0;
    }

    String text() {
        List<String> tokens = tokens();
        boolean spoilt = oneOf(3);
        if (spoilt) {
            spoil(tokens);
        }
        String text = joined(tokens);
        if (spoilt && oneOf(3) && !text.isEmpty()) {
            int at = random.nextInt(text.length());
            text = oneOf(2) ? text.substring(0, at) : text.substring(0, at) + (char) upTo(255) + text.substring(at + 1);
        }
        return text.length() > 1600 ? text.substring(0, 1600) : text;
    }
}
