import java.io.IOException;
import java.util.ArrayList;
import java.util.List;

/** Sentence by sentence, at their bounds: Terms 1 and promises 1 to 5. */
public final class TextEdgesTest {
    private static final String[] OWN_WORDS = {"craft", "needs", "loss", "man", "of", "loaves", "debt", "others", "out", "demand",
        "cost", "worth", "back", "foes", "raid", "draw", "or", "and", "not", "gone", "days", "short"};
    /** A line of each sort with all that it can have, each TOKEN behind a blank. */
    private static final String ALL = "craft bread needs 2 loss 10 ; craft wall needs 1 loss 7 ;"
        + " man ann of bread wall loaves 2 debt 5 others 1 out ; man bob of wall loaves 0 debt 9 ;"
        + " demand vote cost 17 worth 9 ; back not loaves < 1 + debt * 2 or gone > others and days = short ;"
        + " foes 30 raid 50 ; draw 7 ;";
    private static final String CRAFT = "craft a needs 1 loss 1;";
    private static final String MAN = CRAFT + "man x of a loaves 1 debt 1;";

    private static Edges edges;

    public static void main(String[] args) throws IOException {
        edges = new Edges("TextEdgesTest");
        lines();
        length();
        tokens();
        names();
        howMany();
        numbers();
        once();
        units();
        depth();
        faults();
        newObject();
        feed();
        end();
        city();
        fault();
        edges.close(Edges.fromTo(1, 5));
    }

    // ---- Terms 1

    /** Where each TOKEN begins. */
    private static List<Integer> starts(String text) {
        List<Integer> starts = new ArrayList<>();
        for (int at = 0; at < text.length(); at++) {
            if (text.charAt(at) != ' ' && (at == 0 || text.charAt(at - 1) == ' ')) {
                starts.add(at);
            }
        }
        return starts;
    }

    private static void lines() {
        edges.terms(1, "city = {line}.");
        edges.is(edges.sound("").about(0), 0);
        edges.is(edges.sound(ALL).about(0), 2);
        edges.is(edges.sound(ALL.replace(" ", "\n")).about(0), 2);
        for (int at : starts(ALL)) {
            String ahead = ALL.substring(0, at);
            if (ahead.isEmpty() || ahead.endsWith("; ")) {
                edges.sound(ahead);
                edges.sound(ahead.trim());
            } else {
                edges.faulty(ahead + "^", 2);
                edges.faulty(ahead.trim() + "^", 2);
            }
            String behind = ALL.substring(at);
            for (String other : new String[] {"$", "abcdefghi", "12345", "1x"}) {
                edges.faulty(ahead + "^" + other + " " + behind, 1);
            }
            edges.faulty(ahead + "^) " + behind, 2);
        }
        edges.faulty(ALL + "^)", 2);
        edges.faulty(ALL + " ^;", 2);
        edges.terms(1, "man NAME of NAME {NAME} loaves N debt N [others N] [out] ;");
        edges.sound(CRAFT + "man x of a loaves 1 debt 1;");
        edges.sound(CRAFT + "man x of a loaves 1 debt 1 out;");
        edges.sound(CRAFT + "man x of a loaves 1 debt 1 others 1;");
        edges.sound(CRAFT + "man x of a loaves 1 debt 1 others 1 out;");
        edges.faulty(CRAFT + "man x of a loaves 1 debt 1 out ^others 1;", 2);
        edges.faulty(CRAFT + "man x of a loaves 1 debt 1 out ^out;", 2);
        edges.faulty(CRAFT + "man x of a loaves 1 debt 1 others 1 ^others 1;", 2);
        edges.faulty(CRAFT + "man x of ^loaves 1 debt 1;", 2);
        edges.terms(1, "one = not one | sum [(< | > | =) sum].");
        edges.sound("back 1;");
        edges.sound("back 1 < 2;");
        edges.faulty("back 1 < 2 ^< 3;", 2);
        edges.faulty("back 1 = 2 ^> 3;", 2);
        edges.sound("back (1 < 2) < 3;");
        edges.faulty("back 1 < ^not 2;", 2);
        edges.faulty("back 1 + ^not 2;", 2);
        edges.faulty("back ^< 2;", 2);
        edges.faulty("back not^;", 2);
    }

    private static void length() {
        edges.terms(1, "A CITY is a text of at most 1,600 bytes (empty at first)");
        HillLeavers x = new HillLeavers();
        edges.is(x.about(12), 0);
        edges.is(x.about(0), 0);
        edges.is(x.about(1), 0);
        edges.is(x.about(2), 0);
        edges.is(Due.city(x, "draw 8" + " ".repeat(1593) + ";"), 0);
        edges.is(x.about(4), 8);
        edges.is(Due.city(x, " ".repeat(1599) + "$"), -1);
        edges.is(x.fault(1), 1599);
        edges.is(Due.city(x, " ".repeat(1580) + "craft a needs 1 loss"), -1);
        edges.is(x.fault(0), 2);
        edges.is(x.fault(1), 1600);
        edges.is(Due.city(x, "a".repeat(1600)), -1);
        edges.is(x.fault(0), 1);
        edges.is(x.fault(1), 0);
        edges.is(Due.city(x, "draw " + "1".repeat(1595)), -1);
        edges.is(x.fault(0), 1);
        edges.is(x.fault(1), 5);
        edges.is(Due.city(x, "back" + "(".repeat(1596)), -1);
        edges.is(x.fault(0), 2);
        edges.is(x.fault(1), 11);
        edges.is(Due.city(x, "back " + "not ".repeat(398)), -1);
        edges.is(x.fault(0), 2);
        edges.is(x.fault(1), 33);
        edges.is(Due.city(x, ";".repeat(1600)), -1);
        edges.is(x.fault(1), 0);
    }

    private static void tokens() {
        edges.terms(1, "words (a .. z, 8 at most)");
        for (int letters = 1; letters <= 20; letters++) {
            String word = "qwzrtypsdfghjklxcvbn".substring(0, letters);
            if (letters <= 8) {
                edges.sound("craft " + word + " needs 1 loss 1;");
            } else {
                edges.faulty("craft ^" + word + " needs 1 loss 1;", 1);
            }
        }
        edges.faulty("craft a^`", 1);
        edges.faulty("craft a^{", 1);
        edges.faulty("craft ^Az needs 1 loss 1;", 1);
        edges.sound("craft az needs 1 loss 1;craft za needs 1 loss 1;");
        edges.terms(1, "N (1 to 4 digits)");
        for (String good : new String[] {"0", "9", "00", "0007", "0000", "99", "999"}) {
            edges.is(edges.sound("draw " + good + ";").about(4), Integer.parseInt(good));
        }
        edges.sound("back 9999;");
        for (String wrong : new String[] {"00000", "00007", "12345", "99999", "0000000000", "4294967296", "2147483648"}) {
            edges.faulty("draw ^" + wrong + ";", 1);
            edges.faulty("back ^" + wrong + ";", 1);
        }
        edges.faulty("draw 7^/", 2);
        edges.faulty("draw 7^:", 1);
        edges.terms(1, "signs ; ( ) < > = + - * / %");
        for (int b = 0; b < 256; b++) {
            char sign = (char) b;
            boolean blank = b == ' ' || b == '\n';
            boolean token = ";()<>=+-*/%".indexOf(sign) >= 0 || b >= 'a' && b <= 'z' || b >= '0' && b <= '9';
            HillLeavers x = new HillLeavers();
            edges.is(Due.city(x, "" + sign), blank ? 0 : -1);
            edges.is(x.fault(0), blank ? 0 : token ? 2 : 1);
            edges.is(x.fault(1), blank ? -1 : 0);
            edges.is(Due.city(x, "draw 7;" + sign), blank ? 0 : -1);
            edges.is(x.fault(1), blank ? -1 : 7);
        }
        for (String sign : "< > = + - * / %".split(" ")) {
            edges.sound("back 1" + sign + "1;");
        }
        edges.terms(1, "blanks (32, 10) part them or not");
        edges.sound("draw7;foes1 raid2;back(1)or(2)and not(3);");
        edges.sound("craft a needs1 loss1;");
        edges.sound("\n draw \n\n  7 \n ; \n");
        edges.faulty("draw^\t7;", 1);
        edges.faulty("draw^\r\n7;", 1);
        edges.faulty("draw^\u00007;", 1);
        edges.faulty("draw^\u00a07;", 1);
        edges.terms(1, "each is as long as can be");
        edges.is(edges.sound("draw 12;").about(4), 12);
        edges.faulty("draw 1 ^2;", 2);
        edges.faulty("^crafta needs 1 loss 1;", 2);
        edges.faulty("craft a ^needsx 1 loss 1;", 2);
        edges.faulty("^dra w 7;", 2);
        edges.terms(1, "no letter directly behind an N");
        edges.faulty("draw ^7a;", 1);
        edges.faulty("draw ^7z;", 1);
        edges.faulty("draw ^0007a;", 1);
        edges.faulty("craft a needs ^1loss 1;", 1);
        edges.faulty("back ^1or 1;", 1);
        edges.faulty("draw 7 ^a;", 2);
        edges.faulty("draw 7^A;", 1);
        edges.faulty("draw 7^_;", 1);
        edges.faulty("draw 7^`;", 1);
        edges.faulty("draw 7^{;", 1);
        edges.sound("back 1+loaves;");
        edges.terms(1, "(what is none of these, a longer word, more digits, an N with a letter behind it: 1 at its first byte)");
        edges.faulty("craft a needs 1 loss ^1x", 1);
        edges.faulty("craft a needs 1 loss ^12345", 1);
        edges.faulty("craft a needs 1 loss ^12345x", 1);
        edges.faulty("craft a needs 1 loss ^?", 1);
        edges.faulty("craft a needs 1 ^lossloss 1", 2);
        edges.faulty("craft a needs 1 ^losslossl 1", 1);
    }

    private static void names() {
        edges.terms(1, "Words that stand for themselves here are no NAMES.");
        for (String word : OWN_WORDS) {
            edges.faulty("craft ^" + word + " needs 1 loss 1;", 2);
            edges.faulty(CRAFT + "man ^" + word + " of a loaves 1 debt 1;", 2);
            edges.faulty(CRAFT + "man x of ^" + word + " loaves 1 debt 1;", 2);
            if (!word.equals("loaves")) {
                edges.faulty(CRAFT + "man x of a ^" + word + " 1 debt 1;", 2);
            }
            edges.faulty("demand ^" + word + " cost 1 worth 1;", 2);
            edges.sound("craft " + word + "x needs 1 loss 1;");
            edges.sound("craft x" + word + " needs 1 loss 1;");
        }
        edges.terms(1, "numbered as told, each sort by itself");
        HillLeavers x = edges.sound("demand a cost 1 worth 9; craft a needs 1 loss 2; man a of a loaves 3 debt 9;"
            + " foes 1 raid 1;craft b needs 1 loss 4; demand b cost 5 worth 9; draw 1; man b of b a loaves 6 debt 9; back 1;"
            + "man c of b loaves 7 debt 9; demand c cost 8 worth 9; craft c needs 1 loss 9;");
        int[][] due = {{1, 2, 3, 1}, {5, 4, 6, 3}, {8, 9, 7, 2}};
        for (int i = 0; i < 3; i++) {
            edges.is(x.demand(i, 0), due[i][0]);
            edges.is(x.craft(i, 3), due[i][1]);
            edges.is(x.man(i, 1), due[i][2]);
            edges.is(x.man(i, 5), due[i][3]);
        }
        edges.is(x.craft(0, 4), 3);
        edges.is(x.craft(1, 4), 6);
        edges.is(x.craft(2, 4), 0);
    }

    /** So many lines of a sort, each with a NAME of its own. */
    private static String many(String sort, String behind, int count) {
        StringBuilder text = new StringBuilder();
        for (int i = 0; i < count; i++) {
            text.append(sort).append(" n").append((char) ('a' + i)).append(behind);
        }
        return text.toString();
    }

    private static void tooMany(String ahead, String sort, String behind, int most) {
        for (int count = 0; count <= most; count++) {
            HillLeavers x = edges.sound(ahead + many(sort, behind, count));
            edges.is(x.about(sort.equals("man") ? 0 : sort.equals("craft") ? 1 : 2), count + (sort.equals("craft") ? 1 : 0));
        }
        String full = ahead + many(sort, behind, most);
        edges.faulty(full + "^" + sort + " other" + behind, 2);
        // at the line's first word, whatever stands behind it, also if it is a NAME told already or no TOKEN
        edges.faulty(full + "^" + sort + " na" + behind, 2);
        edges.faulty(full + "^" + sort + " $", 2);
        edges.faulty(full + "^" + sort, 2);
        edges.faulty(full + "draw 7; ^" + sort + " other" + behind, 2);
    }

    private static void howMany() {
        edges.terms(1, "At most 4 CRAFTS (needs 0 .. 7 hands, loss 0 .. 99)");
        tooMany(CRAFT, "craft", " needs 1 loss 1;", 3);
        edges.terms(1, "7 MEN (of CRAFTS told ahead, each once");
        tooMany(CRAFT, "man", " of a loaves 1 debt 1;", 7);
        edges.faulty("man x of ^a loaves 1 debt 1;" + CRAFT, 5);
        edges.faulty(CRAFT + "man x of ^b loaves 1 debt 1; craft b needs 1 loss 1;", 5);
        edges.faulty(CRAFT + "man x of a ^b loaves 1 debt 1; craft b needs 1 loss 1;", 5);
        edges.faulty(CRAFT + "man x of a ^a loaves 1 debt 1;", 3);
        String four = "craft a needs 1 loss 1;craft b needs 1 loss 1;craft c needs 1 loss 1;craft d needs 1 loss 1;";
        edges.is(edges.sound(four + "man x of d b c a loaves 1 debt 1;").man(0, 5), 15);
        for (String again : "a b c d".split(" ")) {
            edges.faulty(four + "man x of a b c d ^" + again + " loaves 1 debt 1;", 3);
        }
        edges.faulty(four + "man x of a b c d ^e loaves 1 debt 1;", 5);
        edges.faulty(four + "man x of a b c ^e d loaves 1 debt 1;", 5);
        edges.terms(1, "5 DEMANDS (cost 0 .. 999, worth 0 .. 99)");
        tooMany("", "demand", " cost 1 worth 1;", 5);
    }

    /** One number of a line, at all that four digits can tell. */
    private static void number(String ahead, String behind, int most) {
        String unfit = ahead + "^" + (most + 1) + behind;
        edges.faulty(unfit, 4);
        edges.faulty(ahead + "^9999" + behind, 4);
        edges.faulty(ahead + "^10000" + behind, 1);
        edges.faulty(ahead + "^0" + "0000" + behind, 1);
        edges.faulty(ahead + "^- 1" + behind, 2);
        edges.faulty(ahead + "^x" + behind, 2);
        edges.faulty(ahead + "^" + behind.trim(), 2);
        HillLeavers x = new HillLeavers();
        for (int i = 0; i <= 9999; i++) {
            edges.is(Due.city(x, ahead + i + behind) == HillLeavers.NONE, i > most);
            edges.is(x.fault(0), i > most ? 4 : 0);
            edges.is(x.fault(1), i > most ? ahead.length() : -1);
        }
    }

    private static void numbers() {
        edges.terms(1, "(needs 0 .. 7 hands, loss 0 .. 99)");
        number("craft a needs ", " loss 1;", 7);
        number("craft a needs 1 loss ", ";", 99);
        edges.terms(1, "loaves 0 .. 20, debt 0 .. 99, others 0 .. 6, 0 if not told");
        number(CRAFT + "man x of a loaves ", " debt 1;", 20);
        number(CRAFT + "man x of a loaves 1 debt ", ";", 99);
        number(CRAFT + "man x of a loaves 1 debt 1 others ", ";", 6);
        edges.is(Due.with(MAN).man(0, 4), 0);
        edges.is(Due.with(CRAFT + "man x of a loaves 1 debt 1 others 6;").man(0, 4), 6);
        edges.terms(1, "(cost 0 .. 999, worth 0 .. 99)");
        number("demand a cost ", " worth 1;", 999);
        number("demand a cost 1 worth ", ";", 99);
        edges.terms(1, "foes (0 .. 100 by 100 for each CRAFT that is short; raid 0 .. 999; 0 and 0)");
        number("foes ", " raid 1;", 100);
        number("foes 1 raid ", ";", 999);
        HillLeavers none = Due.with("craft a needs 7 loss 3;");
        for (int day = 0; day < 100; day++) {
            none.day();
        }
        edges.is(none.about(6), 0);
        edges.is(none.about(5), 300);
        edges.terms(1, "draw (0 .. 999; 0) once each");
        number("draw ", ";", 999);
        edges.is(Due.with("craft a needs 7 loss 3;").about(4), 0);
        edges.is(Due.with("draw 0;").about(4), 0);
        edges.is(Due.with("draw 999;").about(4), 999);
    }

    private static void once() {
        edges.terms(1, "once each");
        for (String line : new String[] {"back 0;", "foes 0 raid 0;", "draw 0;"}) {
            String word = line.substring(0, 4);
            edges.sound(line);
            edges.faulty(line + "^" + line, 2);
            edges.faulty(line + "^" + word, 2);
            edges.faulty(line + "^" + word + " $", 2);
            edges.faulty(line + CRAFT + " ^" + line, 2);
        }
        edges.sound("back 0;foes 0 raid 0;draw 0;");
        edges.sound("draw 0;foes 0 raid 0;back 0;");
    }

    private static void units() {
        edges.terms(1, "60 units in all, 30 in one e");
        for (int count = 1; count <= 30; count++) {
            edges.is(edges.sound("back 1" + "+1".repeat(count - 1) + ";").about(13), count);
            edges.is(edges.sound("back " + "1 or ".repeat(count - 1) + "days;").about(13), count);
        }
        String full = "back 1" + "+1".repeat(29);
        for (String unit : "1 9999 loaves debt others gone days short (1)".split(" ")) {
            edges.sound("back 1" + "+1".repeat(unit.equals("(1)") ? 27 : 28) + "+" + unit + ";");
            edges.faulty(full + "+^" + unit + ";", 2);
            edges.faulty(full + " or ^" + unit + ";", 2);
            edges.faulty(full + " < ^" + unit + ";", 2);
            edges.faulty(full + " and not not ^" + unit + ";", 2);
        }
        edges.faulty(full + "+^10000;", 1);
        // a unit ( e ) is one besides those within it, and these are in the e about it, too
        edges.is(edges.sound("back (1);").about(13), 2);
        edges.is(edges.sound("back ((1));").about(13), 3);
        edges.is(edges.sound("back (1" + "+1".repeat(28) + ");").about(13), 30);
        edges.faulty("back (1" + "+1".repeat(28) + "+^1);", 2);
        edges.faulty("back (1" + "+1".repeat(28) + ")+^1;", 2);
        edges.is(edges.sound("back " + "(1)+".repeat(14) + "(1);").about(13), 30);
        edges.faulty("back " + "(1)+".repeat(15) + "^(1);", 2);
        edges.is(edges.sound("draw 1;").about(13), 0);
    }

    private static void depth() {
        edges.terms(1, "(a unit ( e ), or a one behind not, within 6 others at most)");
        for (int kinds = 0; kinds < 256; kinds++) {
            StringBuilder opened = new StringBuilder("back ");
            StringBuilder closed = new StringBuilder();
            for (int i = 0; i < 7; i++) {
                boolean not = (kinds >> i & 1) == 1;
                opened.append(not ? "not " : "(");
                closed.append(not ? "" : ")");
            }
            edges.sound(opened + "1" + closed + ";");
            edges.sound(opened + "1" + closed + " or " + opened.substring(5) + "1" + closed + ";");
            String eighth = kinds >> 7 == 1 ? "not 1" : "(1)";
            edges.faulty(opened + "^" + eighth + closed + ";", 2);
            edges.faulty("back 1 or " + opened.substring(5) + "^" + eighth + closed + ";", 2);
            if (opened.charAt(opened.length() - 1) == '(') {
                edges.faulty(opened + "1 and ^" + eighth + closed + ";", 2);
            } else {
                // a not reaches as far as its one does
                edges.faulty(opened + "1 * ^(1)" + closed + ";", 2);
                edges.faulty(opened + "1 < ^(1)" + closed + ";", 2);
                edges.sound(opened + "1 and not 1" + closed + ";");
            }
        }
        edges.terms(1, "what is within 7 others: at its first TOKEN, or the not");
        edges.faulty("back " + "not ".repeat(7) + "^not $", 2);
        edges.faulty("back " + "(".repeat(7) + "^($", 2);
        edges.faulty("back " + "not ".repeat(7) + "^;", 2);
        edges.faulty("back " + "(".repeat(7) + "^)", 2);
        // those that are one behind another are not within one another
        edges.sound("back not (1) and not (2) or (3) * (4) < (5) + (6) and not not not not not not not 7;");
    }

    private static void faults() {
        edges.terms(1, "FAULTS, the first by its place (bytes from 0; the end: the text's length)");
        edges.faulty("^x craft a needs 8 loss 1; $", 2);
        edges.faulty("craft a needs ^8 loss 100; $", 4);
        edges.faulty("craft a needs 7 loss ^100; $", 4);
        edges.faulty("craft a needs 7 loss 99; ^$ craft a", 1);
        edges.faulty(CRAFT + "craft ^a needs 8 loss 1;", 3);
        edges.faulty(CRAFT + "man x of ^b loaves 21 debt 1;", 5);
        edges.faulty("craft^", 2);
        edges.faulty("craft ^", 2);
        edges.faulty("craft \n\n^", 2);
        edges.faulty("draw 7^", 2);
        edges.faulty("draw 7 ^", 2);
        edges.terms(1, "at one place the least");
        edges.faulty("craft a needs ^12345 loss 1;", 1);
        edges.faulty("craft a needs ^99x loss 1;", 1);
        edges.faulty(CRAFT + "craft ^aaaaaaaaa needs 1 loss 1;", 1);
        edges.faulty(CRAFT + "man x of ^bbbbbbbbb loaves 1 debt 1;", 1);
        edges.faulty("craft ^9999 needs 1 loss 1;", 2);
        edges.faulty("draw 7;^draw$", 2);
        edges.terms(1, "3 a NAME told already (of its sort), a CRAFT of a MAN a second time");
        edges.faulty(CRAFT + "craft ^a needs 1 loss 1;", 3);
        edges.faulty(MAN + "man ^x of a loaves 1 debt 1;", 3);
        edges.faulty("demand d cost 1 worth 1;draw 1;demand ^d cost 1 worth 1;", 3);
        edges.sound(CRAFT + "man a of a loaves 1 debt 1;demand a cost 1 worth 1;");
        edges.sound(MAN + "craft x needs 1 loss 1;demand x cost 1 worth 1;man y of x loaves 1 debt 1;");
        edges.sound("craft a needs 1 loss 1;craft aa needs 1 loss 1;craft aaaaaaaa needs 1 loss 1;craft aaaaaaa needs 1 loss 1;");
        edges.faulty(CRAFT + "craft b needs 1 loss 1;man x of a b ^a loaves 1 debt 1;", 3);
        edges.sound(MAN + "man y of a loaves 1 debt 1;");
        edges.terms(1, "5 a NAME that no CRAFT has");
        edges.faulty("man x of ^x loaves 1 debt 1;", 5);
        edges.faulty(MAN + "man y of ^x loaves 1 debt 1;", 5);
        edges.faulty("demand d cost 1 worth 1;man x of ^d loaves 1 debt 1;", 5);
        edges.faulty(CRAFT + "man x of ^aa loaves 1 debt 1;", 5);
    }

    // ---- promises 1 to 5

    private static void newObject() {
        edges.promise(1, "An empty CITY.");
        HillLeavers x = new HillLeavers();
        for (int what = 0; what < 14; what++) {
            edges.is(x.about(what), 0);
        }
        edges.is(x.out(), 0);
        edges.is(Edges.state(x).equals(Edges.state(Due.with(""))), true);
        edges.none(x.man(0, 0));
        edges.none(x.craft(0, 0));
        edges.none(x.demand(0, 0));
        edges.is(x.day(), 0);
        edges.is(x.about(4), 71);
    }

    private static void feed() {
        edges.promise(2, "of each number the highest first: how many there are");
        HillLeavers x = new HillLeavers();
        // craft abcdefgh needs 1 loss 2; as bytes
        edges.is(x.feed(0x63726166, 0x74206162, 0x63646566, 0x6768206e, 0x65656473), 20);
        edges.is(x.feed(0x2031206c, 0x6f737320, 0x323b2020, 0x20202020, 0x20202020), 40);
        edges.is(x.city(), 0);
        edges.is(x.about(1), 1);
        edges.is(x.craft(0, 3), 2);
        for (int place = 0; place < 20; place++) {
            int[] fours = {0x20202020, 0x20202020, 0x20202020, 0x20202020, 0x20202020};
            fours[place / 4] ^= (0x20 ^ 0xff) << 24 - place % 4 * 8;
            x.feed(fours[0], fours[1], fours[2], fours[3], fours[4]);
            edges.none(x.city());
            edges.is(x.fault(0), 1);
            edges.is(x.fault(1), place);
        }
        edges.promise(2, "NONE, and nothing comes, if there would be more than 1,600.");
        HillLeavers full = new HillLeavers();
        for (int i = 1; i <= 80; i++) {
            edges.is(full.feed(0x20202020, 0x20202020, 0x20202020, 0x20202020, 0x20202020), 20 * i);
        }
        for (int length = 1600; length > 1580; length--) {
            edges.is(full.end(length), length);
            edges.refused(full, () -> full.feed(-1, -1, -1, -1, -1));
        }
        edges.is(full.end(1580), 1580);
        edges.is(full.feed(-1, -1, -1, -1, -1), 1600);
        edges.none(full.city());
        edges.is(full.fault(1), 1580);
    }

    private static void end() {
        edges.promise(3, "The TAPE has its first n bytes: n; NONE, doing nothing, if it has not so many, or n is below 0.");
        HillLeavers x = new HillLeavers();
        edges.is(x.end(0), 0);
        for (int n : new int[] {1, -1, Edges.MIN, Edges.MAX}) {
            edges.refused(x, () -> x.end(n));
        }
        Due.feed(x, "draw 789;");
        for (int n : new int[] {10, 20, 1600, -1, Edges.MIN, Edges.MAX}) {
            edges.refused(x, () -> x.end(n));
        }
        edges.is(x.end(9), 9);
        edges.is(x.end(6), 6);
        edges.refused(x, () -> x.end(7));
        // what was cut off does not come again
        Due.feed(x, ";");
        edges.is(x.about(12), 7);
        edges.is(x.city(), 0);
        edges.is(x.about(4), 7);
        Due.feed(x, "draw 9;");
        edges.is(x.end(0), 0);
        edges.is(x.city(), 0);
        edges.is(x.about(4), 0);
    }

    private static void city() {
        edges.promise(4, "all as told, day 0, nothing lost, granted, no ACTS are kept, nothing is SEEN, BOXES are empty then;"
            + " the TIME stays");
        HillLeavers x = busy();
        edges.is(Due.city(x, MAN + "demand d cost 5 worth 1;draw 3;"), 1);
        int[] due = {1, 1, 1, 0, 3, 0, 0, 0, 0, 0, 0, 9, 0, 0};
        for (int what = 0; what < due.length; what++) {
            edges.is(x.about(what), due[what]);
        }
        edges.is(x.man(0, 1), 1);
        edges.is(x.demand(0, 2), 0);
        edges.is(x.out(), 0);
        edges.is(x.undo(), false);
        edges.is(x.redo(), false);
        for (int box = 0; box < 3; box++) {
            edges.none(x.back(box));
        }
        edges.is(x.fits(9), 2);
        edges.is(x.untell(0), false);
        edges.is(x.seen(0, true), 0);
        edges.promise(4, "NONE: a FAULT (the TAPE is empty then, too; all else stays)");
        for (String wrong : new String[] {"$", "craft a needs 8", MAN + MAN, "draw 5; back 1; foes 9 raid 9; x",
            "craft z needs 1 loss 9;man z of z loaves 9 debt 9 out;demand z cost 9 worth 9;"}) {
            HillLeavers y = busy();
            String before = stays(y);
            boolean sound = wrong.endsWith("worth 9;");
            edges.is(Due.city(y, wrong + (sound ? "?" : "")), -1);
            edges.is(stays(y).equals(before), true);
            edges.is(y.about(12), 0);
            edges.is(y.back(1), 1);
            edges.none(y.back(0));
        }
        edges.promise(4, "how many MEN");
        for (int men = 0; men <= 7; men++) {
            edges.is(Due.city(new HillLeavers(), CRAFT + many("man", " of a loaves 1 debt 1;", men)), men);
        }
    }

    /** With ACTS to undo and to redo, a BOX, something SEEN, a TIME. */
    private static HillLeavers busy() {
        HillLeavers x = Due.with(MAN + "demand d cost 5 worth 1;foes 50 raid 3;draw 7;back 0;");
        x.leave(0);
        x.grant(0);
        x.give(0, 5);
        x.day();
        x.image(1);
        x.day();
        x.undo();
        x.seen(0, true);
        x.later(9);
        return x;
    }

    private static String stays(HillLeavers x) {
        StringBuilder state = new StringBuilder();
        for (int what = 0; what < 14; what++) {
            state.append(x.about(what)).append(' ');
        }
        for (int what = 0; what < 7; what++) {
            state.append(x.man(0, what)).append(' ').append(x.craft(0, what)).append(' ').append(x.demand(0, what)).append(' ');
            state.append(x.man(1, what)).append(' ').append(x.will(what)).append(' ').append(x.costs(what)).append(' ');
        }
        return state.append(x.fits(0)).append(' ').append(x.sure(0, 0)).toString();
    }

    private static void fault() {
        edges.promise(5, "Of the latest city() what 0: its FAULT (0: without; ahead of any, too), 1: "
            + "its place (NONE). NONE for another what.");
        HillLeavers x = new HillLeavers();
        edges.is(x.fault(0), 0);
        edges.none(x.fault(1));
        Due.city(x, "draw 1000;");
        edges.is(x.fault(0), 4);
        edges.is(x.fault(1), 5);
        edges.only(0, 1, x::fault);
        Due.feed(x, "$");
        edges.is(x.fault(0), 4);
        x.city();
        edges.is(x.fault(0), 1);
        edges.is(x.fault(1), 0);
        x.city();
        edges.is(x.fault(0), 0);
        edges.none(x.fault(1));
        edges.only(0, 0, x::fault);
    }
}
