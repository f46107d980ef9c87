import java.io.IOException;

/** Sentence by sentence, at their bounds: Terms 2, promises 6 to 20 and 53 to 55. */
public final class DayEdgesTest {
    private static final String HILL = TellingTest.HILL;
    private static final String CAMP = TellingTest.CAMP;
    private static final String[] NAMES = {"p", "q", "r", "s", "t", "u", "v"};

    private static Edges edges;

    public static void main(String[] args) throws IOException {
        edges = new Edges("DayEdgesTest");
        outAtFirst();
        shortAndLoss();
        goesBack();
        formula();
        follows();
        eats();
        seedAndFoes();
        endOfDay();
        acts();
        man();
        craft();
        demand();
        outLossBroken();
        longest();
        hands();
        leave();
        home();
        give();
        grant();
        day();
        undoRedo();
        boxes();
        about();
        edges.close(6, 7, 8, 9, 10, 11, 12, 13, 14, 15, 16, 17, 18, 19, 20, 53, 54, 55);
    }

    // ---- Terms 2

    private static void outAtFirst() {
        edges.terms(2, "A MAN is OUT, or in the city (OUT at first, if told so), has loaves.");
        for (int out = 0; out < 128; out++) {
            StringBuilder text = new StringBuilder("craft a needs 0 loss 0;");
            for (int i = 0; i < 7; i++) {
                text.append("man ").append(NAMES[i]).append(" of a loaves ").append(i).append(" debt 0");
                text.append((out >> i & 1) == 1 ? " out;" : ";");
            }
            HillLeavers x = Due.with(text.toString());
            edges.is(x.out(), out);
            for (int i = 0; i < 7; i++) {
                edges.is(x.man(i, 0), out >> i & 1);
                edges.is(x.man(i, 1), i);
                edges.is(x.man(i, 2), 0);
            }
        }
    }

    private static void shortAndLoss() {
        edges.terms(2, "A CRAFT is SHORT if fewer MEN of it are in the city than it needs.");
        for (int needs = 0; needs <= 7; needs++) {
            for (int men = 0; men <= 7; men++) {
                HillLeavers x = Due.with(Edges.people("needs " + needs + " loss 9", men, 0));
                for (int out = 0; out <= men; out++) {
                    edges.is(x.craft(0, 2), men - out < needs ? 1 : 0);
                    edges.is(x.about(7), men - out < needs ? 1 : 0);
                    edges.is(x.loss(0), men - out < needs ? 9 : 0);
                    x.leave(out);
                }
            }
        }
        edges.terms(2, "LOSS of a day: losses of all that are SHORT together.");
        String crafts = "craft a needs 1 loss 1;craft b needs 1 loss 2;craft c needs 1 loss 4;craft d needs 1 loss 8;";
        for (int out = 0; out < 16; out++) {
            StringBuilder text = new StringBuilder(crafts);
            for (int i = 0; i < 4; i++) {
                text.append("man ").append(NAMES[i]).append(" of ").append((char) ('a' + i)).append(" loaves 1 debt 0");
                text.append((out >> i & 1) == 1 ? " out;" : ";");
            }
            HillLeavers x = Due.with(text.toString());
            edges.is(x.loss(0), out);
            edges.is(x.about(7), out);
            edges.is(x.loss(1), 15);
        }
        edges.is(Due.with(crafts.replaceAll("loss .", "loss 99")).loss(0), 396);
        edges.is(Due.with(crafts.replaceAll("loss .", "loss 0")).loss(0), 0);
    }

    private static void goesBack() {
        edges.terms(2, "A MAN who is OUT goes BACK if what comes of back is not 0");
        String lone = "craft a needs 0 loss 0;man p of a loaves 9 debt 0 out;";
        for (String formula : "1;2;9999;0 - 1;0 - 9999;7 < 9;not 0;256 * 256".split(";")) {
            HillLeavers x = Due.with(lone + "back " + formula + ";");
            edges.is(x.man(0, 6), 1);
            x.day();
            edges.is(x.out(), 0);
        }
        for (String formula : "0;1 - 1;9 < 7;not 1;0 / 5;256 * 256 * 256 * 256".split(";")) {
            HillLeavers x = Due.with(lone + "back " + formula + ";");
            edges.is(x.man(0, 6), 0);
            x.day();
            edges.is(x.out(), 1);
        }
        edges.terms(2, "(if it is not told: if he has no loaves, or fewer others than told are OUT)");
        for (int told = 0; told <= 6; told++) {
            for (int others = 0; others <= 6; others++) {
                for (int loaves = 0; loaves <= 2; loaves++) {
                    HillLeavers x = Due.with(Edges.people("needs 0 loss 0", others, others) + "man z of a loaves " + loaves
                        + " debt 0 others " + told + " out;");
                    edges.is(x.man(others, 6), loaves == 0 || others < told ? 1 : 0);
                    // on the DAY he eats first
                    x.day();
                    edges.is(x.man(others, 0), loaves <= 1 || others < told ? 0 : 1);
                }
            }
        }
    }

    private static void value(String formula, int want) {
        String told = "craft a needs 1 loss 1;craft b needs 1 loss 1;man x of a loaves 3 debt 40 others 2 out;"
            + "man y of b loaves 9 debt 41 out;man z of a loaves 8 debt 42;back " + formula;
        String number = want < 0 ? "0 - " + -want : "" + want;
        edges.is(Due.with(told + " = " + number + ";").man(0, 6), 1);
        edges.is(Due.with(told + " < " + number + " or " + formula + " > " + number + ";").man(0, 6), 0);
        edges.is(Due.with(told + ";").man(0, 6), want == 0 ? 0 : 1);
    }

    private static void formula() {
        edges.terms(2, "by loaves (his), debt, others (told of him), gone (how many others are OUT), "
            + "days (how many days he has been OUT), short (how many CRAFTS are SHORT;");
        value("loaves", 3);
        value("debt", 40);
        value("others", 2);
        value("gone", 1);
        value("days", 0);
        value("short", 1);
        // he alone is OUT: none other; all seven are: six others
        edges.is(Due.with(Edges.people("needs 0 loss 0", 7, 1) + "back gone = 0;").man(0, 6), 1);
        edges.is(Due.with(Edges.people("needs 0 loss 0", 7, 7) + "back gone = 6;").man(6, 6), 1);
        String four = "craft a needs 7 loss 0;craft b needs 7 loss 0;craft c needs 7 loss 0;craft d needs 7 loss 0;";
        edges.is(Due.with(four + "man p of a loaves 1 debt 0 out;back short = 4;").man(0, 6), 1);
        edges.terms(2, "ints, wrapping; / cut, % its rest, both by 0: 0");
        value("9999 * 9999 % 1000", 1);
        value("7 / 2", 3);
        value("(0 - 7) / 2", -3);
        value("7 / (0 - 2)", -3);
        value("(0 - 7) / (0 - 2)", 3);
        value("1 / 2", 0);
        value("(0 - 1) / 2", 0);
        value("7 % 2", 1);
        value("(0 - 7) % 2", -1);
        value("7 % (0 - 2)", 1);
        value("(0 - 7) % (0 - 2)", -1);
        value("7 / 0", 0);
        value("7 % 0", 0);
        value("0 / 0", 0);
        value("0 % 0", 0);
        value("7 / (1 - 1)", 0);
        value("7 % days", 0);
        value("5 + 7 / 0 * 9", 5);
        String half = "1024 * 1024 * 2048";
        value("(" + half + " - 1 > 0)", 1);
        value("(" + half + " < 0)", 1);
        value(half + " + " + half, 0);
        value(half + " * 2", 0);
        value("((" + half + " - 1) + 1 < 0)", 1);
        value("(0 - " + half + " = " + half + ")", 1);
        value("(" + half + " / (0 - 1) = " + half + ")", 1);
        value(half + " % (0 - 1)", 0);
        value("9999 * 9999 * 9999 % 1000", 9999 * 9999 * 9999 % 1000);
        edges.terms(2, "relations, and, or, not are 1 or 0, of what is not 0");
        int[] some = {-2, -1, 0, 1, 2};
        for (int a : some) {
            String left = a < 0 ? "(0 - " + -a + ")" : "" + a;
            value("(not " + left + ")", a == 0 ? 1 : 0);
            value("(not not " + left + ")", a == 0 ? 0 : 1);
            for (int b : some) {
                String right = b < 0 ? "(0 - " + -b + ")" : "" + b;
                value("(" + left + " < " + right + ")", a < b ? 1 : 0);
                value("(" + left + " > " + right + ")", a > b ? 1 : 0);
                value("(" + left + " = " + right + ")", a == b ? 1 : 0);
                value("(" + left + " and " + right + ")", a != 0 && b != 0 ? 1 : 0);
                value("(" + left + " or " + right + ")", a != 0 || b != 0 ? 1 : 0);
            }
        }
    }

    private static void follows() {
        edges.terms(2, "each in the city who has told others 1 or more, FOLLOWS, if at least so many are OUT, "
            + "all by who is OUT at the beginning of this: he is OUT then (days 0)");
        for (int told = 0; told <= 6; told++) {
            for (int others = 0; others <= 6; others++) {
                HillLeavers x = Due.with(Edges.people("needs 0 loss 0", others, others)
                    + "man z of a loaves 9 debt 0 others " + told
                    + ";back 0;");
                x.day();
                int follows = told >= 1 && others >= told ? 1 : 0;
                edges.is(x.man(others, 0), follows);
                edges.is(x.man(others, 2), follows);
                edges.is(x.man(others, 1), 9 - follows);
            }
        }
        StringBuilder chain = new StringBuilder("craft a needs 0 loss 0;back 0;");
        for (int i = 0; i < 7; i++) {
            chain.append("man ").append(NAMES[6 - i]).append(" of a loaves 9 debt 0 others ")
                .append(6 - i).append(i == 6 ? " out;" : ";");
        }
        HillLeavers x = Due.with(chain.toString());
        for (int day = 0; day < 7; day++) {
            edges.is(x.out(), 127 & ~((1 << 6 - day) - 1));
            x.day();
        }
        edges.is(x.out(), 127);
        edges.is(x.man(6, 2), 7);
        edges.is(x.man(0, 2), 2);
        // days from before do not count for one who was back and FOLLOWS again
        HillLeavers again = Due.with("craft a needs 0 loss 0;man p of a loaves 9 debt 1 out;"
            + "man q of a loaves 9 debt 0 others 1;back debt < days;");
        again.day();
        edges.is(again.out(), 1);
        edges.is(again.man(1, 2), 0);
        again.leave(1);
        edges.is(again.man(1, 2), 0);
    }

    private static void eats() {
        edges.terms(2, "Each who is OUT eats a loaf, if he has one.");
        HillLeavers x = Due.with("craft a needs 0 loss 0;man p of a loaves 0 debt 0 out;man q of a loaves 1 debt 0 out;"
            + "man r of a loaves 20 debt 0 out;man s of a loaves 1 debt 0;man t of a loaves 1 debt 0 others 1;back 0;");
        int[][] due = {{0, 1, 20, 1, 1}, {0, 0, 19, 1, 0}, {0, 0, 18, 1, 0}};
        for (int day = 0; day < 3; day++) {
            for (int man = 0; man < 5; man++) {
                edges.is(x.man(man, 1), due[day][man]);
            }
            x.day();
        }
        edges.terms(2, "Masters lose the LOSS of the day.");
        // also by one who FOLLOWS on it, and by one who goes BACK at its end
        HillLeavers y = Due.with("craft a needs 1 loss 5;craft b needs 1 loss 3;man p of a loaves 0 debt 0 out;"
            + "man q of b loaves 0 debt 0 others 1;");
        edges.is(y.loss(0), 5);
        edges.is(y.day(), 8);
        edges.is(y.out(), 0);
        edges.is(y.about(5), 8);
        edges.is(y.loss(0), 0);
        edges.is(y.day(), 0);
        edges.is(y.about(5), 8);
    }

    private static void seedAndFoes() {
        edges.terms(2, "The SEED (draw, at first) becomes its 137-fold and 71 more, modulo 1,000");
        for (int draw = 0; draw < 1000; draw++) {
            HillLeavers x = Due.with("draw " + draw + ";");
            edges.is(x.about(4), draw);
            x.day();
            edges.is(x.about(4), (137 * draw + 71) % 1000);
        }
        edges.terms(2, "if its rest by 100 is less than foes tells, times how many CRAFTS are SHORT, a foe comes: "
            + "masters lose what raid tells, besides.");
        String four = "craft a needs 1 loss 1;craft b needs 1 loss 1;craft c needs 1 loss 1;craft d needs 1 loss 1;";
        for (int shorts = 0; shorts <= 4; shorts++) {
            for (int foes : new int[] {0, 1, 12, 24, 25, 26, 33, 34, 49, 50, 51, 99, 100}) {
                HillLeavers x = new HillLeavers();
                for (int draw = 0; draw < 1000; draw += 7) {
                    Due.city(x, four.substring(0, four.length() / 4 * shorts) + "foes " + foes + " raid 700;draw " + draw + ";");
                    boolean comes = (137 * draw + 71) % 1000 % 100 < foes * shorts;
                    edges.is(x.day(), shorts + (comes ? 700 : 0));
                    edges.is(x.about(6), comes ? 1 : 0);
                    edges.is(x.about(5), shorts + (comes ? 700 : 0));
                }
            }
        }
        // 999 becomes 934: no foe by 34, one by 35
        edges.is(Due.with(four.substring(0, 23) + "foes 34 raid 999;draw 999;").day(), 1);
        edges.is(Due.with(four.substring(0, 23) + "foes 35 raid 999;draw 999;").day(), 1000);
        edges.is(Due.with(four.substring(0, 23) + "foes 100 raid 0;draw 999;").day(), 1);
    }

    private static void endOfDay() {
        edges.terms(2, "his days are one more;"
            + " those go BACK, all by what is so at the beginning of this (days with this one). The day goes up by 1.");
        for (int days = 0; days < 5; days++) {
            HillLeavers x = Due.with("craft a needs 0 loss 0;man p of a loaves 0 debt 0 out;back days > " + days + ";");
            for (int day = 0; day <= days; day++) {
                edges.is(x.out(), 1);
                edges.is(x.man(0, 2), day);
                edges.is(x.about(3), day);
                x.day();
            }
            edges.is(x.out(), 0);
            edges.is(x.man(0, 2), 0);
            edges.is(x.about(3), days + 1);
        }
        // gone and short are told ahead of any who goes BACK
        HillLeavers gone = Due.with(Edges.people("needs 0 loss 0", 7, 7) + "back gone = 6;");
        gone.day();
        edges.is(gone.out(), 0);
        HillLeavers shorts = Due.with(Edges.people("needs 7 loss 0", 7, 7) + "back short = 1;");
        shorts.day();
        edges.is(shorts.out(), 0);
        HillLeavers stays = Due.with(Edges.people("needs 0 loss 0", 7, 7) + "back gone < 6;");
        stays.day();
        edges.is(stays.out(), 127);
        stays.home(3);
        stays.day();
        edges.is(stays.out(), 0);
    }

    private static void acts() {
        edges.terms(2, "loaves are given to one (99 at most)");
        HillLeavers loaves = Due.with("craft a needs 0 loss 0;man p of a loaves 20 debt 0;");
        edges.is(loaves.give(0, 78), 98);
        edges.is(loaves.give(0, 1), 99);
        edges.is(loaves.give(0, 1), 99);
        edges.is(loaves.give(0, 99), 99);
        edges.is(loaves.about(8), 4);
        edges.terms(2, "UNDO takes back the latest ACT that was not, "
            + "REDO does that again which was taken back last (till another ACT); 40 at most are kept, the oldest go.");
        for (int acts = 0; acts <= 130; acts++) {
            HillLeavers x = Due.with(CAMP);
            for (int i = 0; i < acts; i++) {
                x.day();
            }
            int kept = Math.min(40, acts);
            edges.is(x.about(8), kept);
            edges.is(x.about(9), 0);
            for (int i = 1; i <= kept; i++) {
                edges.is(x.undo(), true);
                edges.is(x.about(3), acts - i);
                edges.is(x.about(8), kept - i);
                edges.is(x.about(9), i);
            }
            edges.is(x.undo(), false);
            for (int i = 1; i <= kept; i++) {
                edges.is(x.redo(), true);
                edges.is(x.about(3), acts - kept + i);
            }
            edges.is(x.redo(), false);
            edges.is(x.about(8), kept);
        }
        HillLeavers y = Due.with(CAMP);
        for (int i = 0; i < 41; i++) {
            y.day();
        }
        for (int i = 0; i < 40; i++) {
            y.undo();
        }
        edges.is(y.about(3), 1);
        y.day();
        edges.is(y.about(8), 1);
        edges.is(y.about(9), 0);
        edges.is(y.redo(), false);
        for (int i = 0; i < 39; i++) {
            y.day();
        }
        edges.is(y.about(8), 40);
        edges.is(y.about(3), 41);
    }

    // ---- promises

    private static void man() {
        edges.promise(6, "NONE if there is none such, or for another what.");
        for (int men = 0; men <= 7; men++) {
            HillLeavers x = Due.with(Edges.people("needs 0 loss 0", men, 1));
            for (int what = 0; what <= 6; what++) {
                int asked = what;
                edges.only(0, men - 1, man -> x.man(man, asked));
            }
            for (int man = 0; man < men; man++) {
                int asked = man;
                edges.only(0, 6, what -> x.man(asked, what));
            }
        }
        edges.promise(6, "2: days OUT (0 if he is not)");
        HillLeavers x = Due.with(CAMP);
        x.leave(0);
        x.day();
        x.day();
        edges.is(x.man(0, 2), 2);
        x.home(0);
        edges.is(x.man(0, 2), 0);
        x.day();
        edges.is(x.man(0, 2), 0);
        x.leave(0);
        edges.is(x.man(0, 2), 0);
        edges.promise(6, "6: 1 if he would go BACK now (he is OUT), else 0");
        HillLeavers y = Due.with("craft a needs 0 loss 0;man p of a loaves 9 debt 0;man q of a loaves 9 debt 0 out;back 1;");
        edges.is(y.man(0, 6), 0);
        edges.is(y.man(1, 6), 1);
        // now, without the loaf and the day that a DAY would take and bring
        HillLeavers last = Due.with("craft a needs 0 loss 0;man p of a loaves 1 debt 0 out;");
        edges.is(last.man(0, 6), 0);
        edges.is(last.will(1), 0);
    }

    private static void craft() {
        edges.promise(7, "NONE if there is none such, or for another what.");
        String four = "craft a needs 0 loss 1;craft b needs 1 loss 1;craft c needs 7 loss 1;craft d needs 1 loss 1;";
        for (int crafts = 0; crafts <= 4; crafts++) {
            HillLeavers x = Due.with(four.substring(0, 23 * crafts));
            for (int what = 0; what <= 4; what++) {
                int asked = what;
                edges.only(0, crafts - 1, craft -> x.craft(craft, asked));
            }
            for (int craft = 0; craft < crafts; craft++) {
                int asked = craft;
                edges.only(0, 4, what -> x.craft(asked, what));
            }
        }
        edges.promise(7, "1: how many are in the city, 2: 1 if SHORT, else 0, 3: loss, 4: MEN of it, as bits");
        HillLeavers x = Due.with(Edges.people("needs 3 loss 99", 7, 4));
        int[] due = {3, 3, 0, 99, 127};
        for (int what = 0; what < 5; what++) {
            edges.is(x.craft(0, what), due[what]);
        }
        x.leave(4);
        edges.is(x.craft(0, 1), 2);
        edges.is(x.craft(0, 2), 1);
        edges.is(x.craft(0, 4), 127);
    }

    private static void demand() {
        edges.promise(8, "NONE if there is none such, or for another what.");
        String five = "demand a cost 0 worth 1;demand b cost 9 worth 1;demand c cost 9 worth 0;demand d cost 9 worth 1;"
            + "demand e cost 9 worth 1;";
        for (int demands = 0; demands <= 5; demands++) {
            HillLeavers x = Due.with(five.substring(0, 24 * demands));
            for (int what = 0; what <= 3; what++) {
                int asked = what;
                edges.only(0, demands - 1, demand -> x.demand(demand, asked));
            }
            for (int demand = 0; demand < demands; demand++) {
                int asked = demand;
                edges.only(0, 3, what -> x.demand(asked, what));
            }
        }
        edges.terms(3, "KEPT is a granted DEMAND whose cost is no more than the LOSS of a day on which all are OUT.");
        HillLeavers x = Due.with("craft a needs 1 loss 9;man p of a loaves 1 debt 0;demand a cost 8 worth 1;"
            + "demand b cost 9 worth 1;demand c cost 10 worth 1;demand d cost 0 worth 1;");
        for (int demand = 0; demand < 4; demand++) {
            edges.is(x.demand(demand, 3), 0);
            x.grant(demand);
            edges.is(x.demand(demand, 3), demand == 2 ? 0 : 1);
        }
        edges.promise(11, "DEMANDS that are granted, but not KEPT, as bits.");
        edges.is(x.broken(), 4);
        x.leave(0);
        edges.is(x.broken(), 4);
        HillLeavers none = Due.with(five);
        edges.is(none.broken(), 0);
        for (int demand = 0; demand < 5; demand++) {
            none.grant(demand);
        }
        edges.is(none.broken(), 30);
        edges.is(none.undo(), true);
        edges.is(none.broken(), 14);
    }

    private static void outLossBroken() {
        edges.promise(9, "Who is OUT, as bits.");
        edges.is(new HillLeavers().out(), 0);
        HillLeavers x = Due.with(Edges.people("needs 7 loss 9", 7, 0));
        for (int man = 0; man < 7; man++) {
            x.leave(man);
            edges.is(x.out(), (2 << man) - 1);
        }
        edges.promise(10, "LOSS of a day by who is OUT now (what 0), if all were (1); NONE for another what.");
        edges.only(0, 1, x::loss);
        HillLeavers y = Due.with(HILL);
        edges.is(y.loss(0), 0);
        edges.is(y.loss(1), 17);
        HillLeavers none = new HillLeavers();
        edges.is(none.loss(0), 0);
        edges.is(none.loss(1), 0);
        edges.only(0, 1, none::loss);
    }

    private static void longest() {
        edges.promise(12, "The MAN who has been OUT the most days; of like ones the first; NONE if nobody is OUT.");
        edges.none(new HillLeavers().longest());
        HillLeavers x = Due.with(Edges.people("needs 0 loss 0", 7, 0) + "back 0;");
        edges.none(x.longest());
        for (int man = 6; man >= 0; man--) {
            x.leave(man);
            edges.is(x.longest(), man);
        }
        for (int man = 0; man < 7; man++) {
            edges.is(x.longest(), man);
            x.home(man);
        }
        edges.none(x.longest());
        x.leave(6);
        x.day();
        x.leave(0);
        x.leave(5);
        edges.is(x.longest(), 6);
        x.home(6);
        edges.is(x.longest(), 0);
        // one who was OUT for long, but is in the city, does not count
        edges.is(x.out(), 33);
    }

    private static void hands() {
        edges.promise(13, "How many of a CRAFT are in the city behind n DAYS (0 .. 60); NONE if one can't be.");
        HillLeavers x = Due.with(HILL);
        for (int craft = 0; craft < 3; craft++) {
            int asked = craft;
            edges.only(0, 60, n -> x.hands(asked, n));
        }
        for (int n : new int[] {0, 1, 60}) {
            edges.only(0, 2, craft -> x.hands(craft, n));
        }
        edges.only(0, -1, craft -> x.hands(craft, 61));
        edges.only(0, -1, craft -> x.hands(craft, -1));
        edges.only(0, -1, n -> x.hands(3, n));
        HillLeavers y = Due.with("craft a needs 0 loss 0;man p of a loaves 0 debt 0 out;back days = 60;");
        edges.is(y.hands(0, 0), 0);
        edges.is(y.hands(0, 59), 0);
        edges.is(y.hands(0, 60), 1);
    }

    private static void leave() {
        edges.promise(14, "One leaves: how many are OUT then; NONE, doing nothing, if he is OUT, "
            + "or there is none such. (An ACT.)");
        for (int men = 0; men <= 7; men++) {
            String text = Edges.people("needs 0 loss 0", men, 0);
            edges.only(0, men - 1, man -> Due.with(text).leave(man));
            HillLeavers x = Due.with(text);
            for (int man = 0; man < men; man++) {
                edges.is(x.leave(man), man + 1);
                edges.is(x.about(8), man + 1);
                int again = man;
                edges.refused(x, () -> x.leave(again));
            }
            for (int no : new int[] {-1, men, 7, 8, 32, Edges.MIN, Edges.MAX}) {
                edges.refused(x, () -> x.leave(no));
            }
        }
    }

    private static void home() {
        edges.promise(15, "One goes home: how many days he was OUT; NONE, doing nothing, if he is not OUT, "
            + "or there is none such. (An ACT.)");
        for (int men = 0; men <= 7; men++) {
            String text = Edges.people("needs 0 loss 0", men, men);
            edges.only(0, men - 1, man -> Due.with(text).home(man));
            HillLeavers x = Due.with(text + "back 0;");
            for (int man = 0; man < men; man++) {
                edges.is(x.home(man), man);
                edges.is(x.about(8), 2 * man + 1);
                int again = man;
                edges.refused(x, () -> x.home(again));
                x.day();
            }
            for (int no : new int[] {-1, 0, men, 7, 8, 32, Edges.MIN, Edges.MAX}) {
                edges.refused(x, () -> x.home(no));
            }
        }
        HillLeavers x = Due.with(CAMP);
        edges.refused(x, () -> x.home(1));
    }

    private static void give() {
        edges.promise(16, "Loaves (1 .. 99) are given to one: what he has then (99 at most); NONE, doing nothing, "
            + "if one can't be. (An ACT.)");
        String text = Edges.people("needs 0 loss 0", 3, 1).replace("loaves 9", "loaves 0");
        edges.only(1, 99, loaves -> Due.with(text).give(1, loaves));
        edges.only(0, 2, man -> Due.with(text).give(man, 1));
        for (int first = 1; first <= 99; first++) {
            for (int second : new int[] {1, 2, 49, 98, 99}) {
                HillLeavers x = Due.with(text);
                edges.is(x.give(0, first), first);
                edges.is(x.give(0, second), Math.min(99, first + second));
                edges.is(x.man(0, 1), Math.min(99, first + second));
                edges.is(x.about(8), 2);
            }
        }
        HillLeavers x = Due.with(text);
        for (int no : new int[] {0, 100, -1, Edges.MIN, Edges.MAX}) {
            edges.refused(x, () -> x.give(0, no));
        }
        for (int no : new int[] {-1, 3, 7, Edges.MIN, Edges.MAX}) {
            edges.refused(x, () -> x.give(no, 1));
        }
        HillLeavers none = new HillLeavers();
        edges.refused(none, () -> none.give(0, 1));
    }

    private static void grant() {
        edges.promise(17, "A DEMAND is granted: what masters have lost then in all; NONE, doing nothing, "
            + "if it is so already, or there is none such. (An ACT.)");
        String text = "demand a cost 0 worth 1;demand b cost 999 worth 1;demand c cost 1 worth 1;demand d cost 2 worth 1;"
            + "demand e cost 4 worth 1;";
        edges.only(0, 4, demand -> Due.with(text).grant(demand));
        HillLeavers x = Due.with("craft a needs 1 loss 50;" + text);
        x.day();
        int[] due = {50, 1049, 1050, 1052, 1056};
        for (int demand = 0; demand < 5; demand++) {
            edges.is(x.grant(demand), due[demand]);
            edges.is(x.about(5), due[demand]);
            edges.is(x.about(8), demand + 2);
            int again = demand;
            edges.refused(x, () -> x.grant(again));
        }
        for (int no : new int[] {-1, 5, 32, Edges.MIN, Edges.MAX}) {
            edges.refused(x, () -> x.grant(no));
        }
        HillLeavers none = new HillLeavers();
        edges.refused(none, () -> none.grant(0));
    }

    private static void day() {
        edges.promise(18, "A DAY: what masters lose on it; NONE, doing nothing, behind 999 of them. (An ACT.)");
        HillLeavers x = Due.with("craft a needs 1 loss 9;foes 100 raid 5;");
        for (int day = 1; day <= 999; day++) {
            edges.is(x.day(), 14);
            edges.is(x.about(3), day);
            edges.is(x.about(8), Math.min(40, day));
        }
        edges.refused(x, x::day);
        edges.is(x.about(3), 999);
        edges.is(x.about(5), 999 * 14);
        x.image(0);
        x.undo();
        edges.is(x.day(), 14);
        edges.refused(x, x::day);
        edges.is(x.back(0), 999);
        edges.refused(x, x::day);
    }

    private static void undoRedo() {
        edges.promise(19, "UNDO: true; false if there is none.");
        HillLeavers none = new HillLeavers();
        edges.is(none.undo(), false);
        HillLeavers x = Due.with(HILL);
        edges.is(x.undo(), false);
        String[] states = new String[6];
        states[0] = Edges.state(x);
        x.leave(0);
        states[1] = Edges.state(x);
        x.home(3);
        states[2] = Edges.state(x);
        x.give(2, 7);
        states[3] = Edges.state(x);
        x.grant(1);
        states[4] = Edges.state(x);
        x.day();
        states[5] = Edges.state(x);
        for (int i = 4; i >= 0; i--) {
            edges.is(x.undo(), true);
            edges.is(alike(x, states[i]), true);
        }
        edges.is(x.undo(), false);
        edges.promise(20, "REDO: true; false if there is none.");
        edges.is(none.redo(), false);
        for (int i = 1; i <= 5; i++) {
            edges.is(x.redo(), true);
            edges.is(alike(x, states[i]), true);
        }
        edges.is(x.redo(), false);
        // each ACT, but nothing else, puts an end to what can be done again
        for (int act = 0; act < 10; act++) {
            HillLeavers y = Due.with(HILL);
            y.leave(0);
            y.undo();
            switch (act) {
                case 0 -> y.leave(1);
                case 1 -> y.home(3);
                case 2 -> y.give(0, 1);
                case 3 -> y.grant(2);
                case 4 -> y.day();
                case 5 -> y.leave(3);
                case 6 -> y.seen(0, true);
                case 7 -> y.image(0);
                case 8 -> y.later(1);
                default -> y.end(0);
            }
            edges.is(y.about(9), act < 5 ? 0 : 1);
            edges.is(y.redo(), act >= 5);
        }
    }

    /** As it was, but for how many ACTS can be undone and redone. */
    private static boolean alike(HillLeavers x, String state) {
        String[] now = Edges.state(x).split(" ");
        String[] then = state.split(" ");
        now[8] = then[8];
        now[9] = then[9];
        return String.join(" ", now).equals(String.join(" ", then));
    }

    private static void boxes() {
        edges.promise(53, "are kept in a BOX 0 .. 2: the day; NONE if there is none such.");
        HillLeavers x = Due.with(CAMP);
        edges.only(0, 2, x::image);
        for (int box = 0; box < 3; box++) {
            edges.is(x.image(box), box);
            x.leave(box);
            x.day();
        }
        for (int no : new int[] {-1, 3, Edges.MIN, Edges.MAX}) {
            edges.refused(x, () -> x.image(no));
        }
        edges.promise(54, "All is as it was kept (no ACTS are kept then): the day; NONE, doing nothing, if nothing was.");
        for (int box = 2; box >= 0; box--) {
            x.leave(0);
            x.leave(1);
            x.day();
            edges.is(x.back(box), box);
            edges.is(x.about(3), box);
            edges.is(x.out(), (1 << box) - 1);
            edges.is(x.about(8), 0);
            edges.is(x.about(9), 0);
            edges.is(x.undo(), false);
            edges.is(x.redo(), false);
        }
        for (int no : new int[] {-1, 3, Edges.MIN, Edges.MAX}) {
            edges.refused(x, () -> x.back(no));
        }
        for (int kept = 0; kept < 8; kept++) {
            HillLeavers y = Due.with(CAMP);
            y.leave(1);
            for (int box = 0; box < 3; box++) {
                if ((kept >> box & 1) == 1) {
                    y.image(box);
                }
            }
            for (int box = 0; box < 3; box++) {
                y.day();
                int asked = box;
                if ((kept >> box & 1) == 1) {
                    edges.is(y.back(box), 0);
                } else {
                    edges.refused(y, () -> y.back(asked));
                }
            }
        }
        edges.promise(53, "Who is OUT, days, loaves, what is lost, how often a foe came, granted, the day, the SEED");
        HillLeavers all = Due.with(HILL + "back 0;");
        all.leave(1);
        all.give(2, 4);
        all.grant(1);
        all.day();
        all.day();
        all.image(1);
        String state = Edges.state(all);
        all.home(1);
        all.grant(0);
        all.give(0, 9);
        all.day();
        edges.is(all.back(1), 2);
        edges.is(alike(all, state), true);
        // it is kept still, whatever is done from there on
        all.day();
        all.give(1, 5);
        edges.is(all.back(1), 2);
        edges.is(alike(all, state), true);
    }

    private static void about() {
        edges.promise(55, "NONE for another what.");
        HillLeavers x = new HillLeavers();
        edges.only(0, 13, x::about);
        HillLeavers hill = Due.with(HILL);
        edges.only(0, 13, hill::about);
        edges.promise(55, "8: ACTS that can be undone, 9: redone, 10: what is SEEN, 11: the TIME, 12: bytes on the TAPE, 13: "
            + "units.");
        hill.leave(0);
        hill.leave(1);
        hill.undo();
        hill.later(6);
        hill.seen(0, true);
        hill.seen(1, true);
        hill.untell(0);
        Due.feed(hill, "abc");
        int[] due = {1, 1, 2, 6, 3, 0};
        for (int what = 8; what < 14; what++) {
            edges.is(hill.about(what), due[what - 8]);
        }
        edges.is(Due.with("back (1 + 2) * 3;").about(13), 4);
    }
}
