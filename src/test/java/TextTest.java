/** Promises 1 to 5: the new object, the TAPE, the text of a CITY and its FAULTS. */
public final class TextTest {
    private static final Due DUE = new Due("TextTest");
    private static final String OWN_WORDS =
        "craft needs loss man of loaves debt others out demand cost worth back foes raid draw or and not gone days short";
    private static final String CRAFT = "craft a needs 1 loss 1;";
    private static final String MAN = CRAFT + "man x of a loaves 1 debt 1;";

    public static void main(String[] args) {
        newObject();
        feed();
        end();
        city();
        oneAfterAnother();
        fault();
        tokens();
        lines();
        tooMany();
        formulas();
        unitsAndDepth();
        values();
        DUE.close();
    }

    /** The FAULT is where the mark ^ stands. */
    private static void faulty(String marked, int fault) {
        int place = marked.indexOf('^');
        String text = marked.substring(0, place) + marked.substring(place + 1);
        HillLeavers x = new HillLeavers();
        DUE.is("city of " + marked, Due.city(x, text), -1);
        DUE.is("fault(0) of " + marked, x.fault(0), fault);
        DUE.is("fault(1) of " + marked, x.fault(1), place);
        DUE.is("tape behind " + marked, x.about(12), 0);
    }

    private static void sound(String text, int men) {
        HillLeavers x = new HillLeavers();
        DUE.is("city of " + text, Due.city(x, text), men);
        DUE.is("fault(0) of " + text, x.fault(0), 0);
        DUE.is("fault(1) of " + text, x.fault(1), -1);
    }

    private static void newObject() {
        HillLeavers x = new HillLeavers();
        DUE.is("NONE", HillLeavers.NONE, -1);
        for (int what = 0; what <= 13; what++) {
            DUE.is("new about " + what, x.about(what), 0);
        }
        DUE.is("new fault(0)", x.fault(0), 0);
        DUE.is("new fault(1)", x.fault(1), -1);
        DUE.is("new fault(2)", x.fault(2), -1);
        DUE.is("new fault(-1)", x.fault(-1), -1);
        DUE.is("new out", x.out(), 0);
        DUE.is("new loss(1)", x.loss(1), 0);
        DUE.is("new undo", x.undo(), false);
        DUE.is("new redo", x.redo(), false);
        DUE.is("new back(0)", x.back(0), -1);
        DUE.is("new fits", x.fits(0), 1);
        DUE.is("new ask", x.ask(0, 0), -1);
        DUE.is("new plan", x.plan(60, 0), 0);
        DUE.is("new until", x.until(0), 59);
        DUE.is("new odds", x.odds(4, 1), 1);
        DUE.is("new twins", x.twins(), 0);
        DUE.is("new spread", x.spread(0), 0);
        DUE.is("new city of nothing", x.city(), 0);
        DUE.is("new day", x.day(), 0);
    }

    private static void feed() {
        HillLeavers x = new HillLeavers();
        DUE.is("feed draw 7", x.feed(0x64726177, 0x20373b20, 0x20202020, 0x20202020, 0x20202020), 20);
        DUE.is("city draw 7", x.city(), 0);
        DUE.is("its seed", x.about(4), 7);
        for (int i = 1; i <= 80; i++) {
            DUE.is("feed " + i, x.feed(0x20202020, 0x20202020, 0x20202020, 0x20202020, 0x20202020), 20 * i);
        }
        DUE.is("feed above 1600", x.feed(0, 0, 0, 0, 0), -1);
        DUE.is("bytes", x.about(12), 1600);
        DUE.is("cut", x.end(1581), 1581);
        DUE.is("feed to 1601", x.feed(0, 0, 0, 0, 0), -1);
        DUE.is("bytes", x.about(12), 1581);
        DUE.is("cut", x.end(1580), 1580);
        DUE.is("feed to 1600", x.feed(0x20202020, 0x0a202020, 0x20202020, 0x20202020, 0x2020203b), 1600);
        DUE.is("city of blanks", x.city(), -1);
        DUE.is("fault", x.fault(0), 2);
        DUE.is("at the last byte", x.fault(1), 1599);
        DUE.is("feed high bytes", x.feed(-1, -1, -1, -1, -1), 20);
        DUE.is("city of high bytes", x.city(), -1);
        DUE.is("fault", x.fault(0), 1);
        DUE.is("place", x.fault(1), 0);
        x.feed(0x202020ff, 0, 0, 0, 0);
        DUE.is("city", x.city(), -1);
        DUE.is("place of the lowest byte", x.fault(1), 3);
    }

    private static void end() {
        HillLeavers x = new HillLeavers();
        DUE.is("end(0) of nothing", x.end(0), 0);
        DUE.is("end(1) of nothing", x.end(1), -1);
        DUE.is("end(-1)", x.end(-1), -1);
        x.feed(0x64726177, 0x20373b24, 0x24242424, 0x24242424, 0x24242424);
        DUE.is("end(21)", x.end(21), -1);
        DUE.is("end(Integer.MIN_VALUE)", x.end(Integer.MIN_VALUE), -1);
        DUE.is("bytes", x.about(12), 20);
        DUE.is("end(20)", x.end(20), 20);
        DUE.is("end(7)", x.end(7), 7);
        DUE.is("end(8)", x.end(8), -1);
        DUE.is("bytes", x.about(12), 7);
        DUE.is("city", x.city(), 0);
        DUE.is("seed", x.about(4), 7);
    }

    private static void city() {
        HillLeavers x = Due.with(MAN + "demand d cost 5 worth 1; foes 100 raid 3; draw 9; back 0;");
        x.leave(0);
        x.grant(0);
        x.give(0, 5);
        x.day();
        x.undo();
        x.day();
        x.undo();
        x.image(1);
        x.seen(0, true);
        x.later(7);
        DUE.is("faulty city", Due.city(x, "draw 1; oh"), -1);
        DUE.is("fault", x.fault(0), 2);
        DUE.is("place", x.fault(1), 8);
        DUE.is("fault(2)", x.fault(2), -1);
        DUE.is("tape", x.about(12), 0);
        int[] stays = {1, 1, 1, 0, 9, 5, 0, 1, 3, 1, 1, 7, 0, 1};
        for (int what = 0; what < stays.length; what++) {
            DUE.is("about " + what + " stays", x.about(what), stays[what]);
        }
        DUE.is("out stays", x.out(), 1);
        DUE.is("loaves stay", x.man(0, 1), 6);
        DUE.is("back(1) stays", x.back(1), 0);
        x.day();
        DUE.is("seed went on", x.about(4), (9 * 137 + 71) % 1000);
        DUE.is("new city", Due.city(x, MAN + "man y of a loaves 3 debt 2 others 4 out;"), 2);
        DUE.is("fault", x.fault(0), 0);
        DUE.is("place", x.fault(1), -1);
        int[] fresh = {2, 1, 0, 0, 0, 0, 0, 0, 0, 0, 0, 7, 0, 0};
        for (int what = 0; what < fresh.length; what++) {
            DUE.is("about " + what + " of the new city", x.about(what), fresh[what]);
        }
        DUE.is("out of the new city", x.out(), 2);
        DUE.is("loaves of the new city", x.man(0, 1), 1);
        for (int box = 0; box < 3; box++) {
            DUE.is("boxes are empty", x.back(box), -1);
        }
        DUE.is("no undo", x.undo(), false);
        DUE.is("no redo", x.redo(), false);
        DUE.is("nothing is seen", x.fits(100), 4);
        DUE.is("empty city", x.city(), 0);
        DUE.is("nobody is out", x.out(), 0);
    }

    /** Of the texts told before nothing is left: all answers are those of a fresh object. */
    private static void oneAfterAnother() {
        String full = "craft a needs 1 loss 9;craft b needs 1 loss 8;craft c needs 1 loss 7;craft d needs 1 loss 6;"
            + "man p of a loaves 9 debt 9 others 1 out;man q of b loaves 9 debt 9 others 2 out;man r of c loaves 9 debt 9 out;"
            + "man s of d loaves 9 debt 9 out;demand k cost 1 worth 9;demand l cost 2 worth 8;demand m cost 0 worth 7;"
            + "foes 100 raid 77;draw 5;back 0;";
        String small = "craft b needs 2 loss 5;man q of b loaves 1 debt 1 out;demand m cost 3 worth 1;";
        String twins = "craft e needs 2 loss 5;craft f needs 1 loss 5;man x of e loaves 1 debt 1;man y of f e loaves 1 debt 1 out;";
        String[] texts = {full, twins, small, full, twins, full, small, small, "", full, "draw 3;", "draw 4;", "foes 9 raid 1;", small,
            "back days > 2;" + small, "back days > 3;" + small, small};
        HillLeavers x = new HillLeavers();
        for (int i = 0; i < texts.length; i++) {
            HillLeavers fresh = new HillLeavers();
            DUE.is("city " + i, Due.city(x, texts[i]), Due.city(fresh, texts[i]));
            DUE.is("fault " + i, x.fault(0), 0);
            for (int day = 0; day < 4; day++) {
                alike("text " + i + " day " + day, x, fresh);
                DUE.is("day", x.day(), fresh.day());
            }
            for (int demand = 0; demand < 5; demand++) {
                DUE.is("grant", x.grant(demand), fresh.grant(demand));
            }
            for (int box = 0; box < 3; box++) {
                DUE.is("box", x.back(box), -1);
                x.image(box);
            }
        }
    }

    private static void alike(String where, HillLeavers x, HillLeavers fresh) {
        for (int i = 0; i < 14; i++) {
            DUE.is(where + " about " + i, x.about(i), fresh.about(i));
        }
        for (int i = 0; i < 7; i++) {
            for (int what = 0; what < 7; what++) {
                DUE.is(where + " man " + i + ", " + what, x.man(i, what), fresh.man(i, what));
                DUE.is(where + " craft " + i + ", " + what, x.craft(i, what), fresh.craft(i, what));
                DUE.is(where + " demand " + i + ", " + what, x.demand(i, what), fresh.demand(i, what));
                DUE.is(where + " offer " + i + ", " + what, x.offer(i, what), fresh.offer(i, what));
            }
            DUE.is(where + " will " + i, x.will(i), fresh.will(i));
            DUE.is(where + " hungry " + i, x.hungry(i), fresh.hungry(i));
            DUE.is(where + " costs " + i, x.costs(i), fresh.costs(i));
            DUE.is(where + " spread " + i, x.spread(i), fresh.spread(i));
            DUE.is(where + " stop " + i, x.stop(i, 1), fresh.stop(i, 1));
            DUE.is(where + " weight " + i, x.weight(i, 0), fresh.weight(i, 0));
        }
        DUE.is(where + " until", x.until(5), fresh.until(5));
        DUE.is(where + " loss", x.loss(1), fresh.loss(1));
    }

    private static void fault() {
        HillLeavers x = new HillLeavers();
        Due.city(x, "draw 1000;");
        DUE.is("fault", x.fault(0), 4);
        DUE.is("place", x.fault(1), 5);
        Due.city(x, "draw 999;");
        DUE.is("fault is gone", x.fault(0), 0);
        DUE.is("place is gone", x.fault(1), -1);
        Due.feed(x, "$");
        DUE.is("fault of the latest city", x.fault(0), 0);
        DUE.is("fault(3)", x.fault(3), -1);
    }

    private static void tokens() {
        faulty("^A", 1);
        faulty("^\t", 1);
        faulty("^\r\n", 1);
        faulty("craft a^$", 1);
        faulty("craft a ^$ needs 1 loss 1;", 1);
        faulty("craft ^abcdefghi needs 1 loss 1;", 1);
        faulty("draw^999999999", 1);
        faulty("^abcdefghijklmnopqrstuvwxyz", 1);
        faulty("craft a needs ^12345 loss 1;", 1);
        faulty("craft a needs ^00001 loss 1;", 1);
        faulty("craft a needs ^1x loss 1;", 1);
        faulty("craft a needs ^1loss 1;", 1);
        faulty("craft a needs ^12345x loss 1;", 1);
        faulty("draw 7^A;", 1);
        faulty("back ^5or 1;", 1);
        faulty("back 1 ^& 1;", 1);
        faulty("back 1 ^! 1;", 1);
        faulty("draw ^7a;", 1);
        faulty("draw 7^\u00e9;", 1);
        faulty("craft ^needs $", 2);
        faulty("craft a needs ^8 $", 4);
        sound("craft abcdefgh needs 0007 loss 0099;", 0);
        sound("craft\na\nneeds\n7\nloss 1;", 0);
        sound("craft a needs7 loss1;", 0);
        sound("draw7;back(1)or(2)and not(3);foes1 raid2;", 0);
        sound("  \n  ", 0);
        sound("draw 7 ; \n\n ", 0);
        sound("back loaves=0 or 1;", 0);
    }

    private static void lines() {
        faulty("^;", 2);
        faulty("^bake", 2);
        faulty("^needs", 2);
        faulty("^7", 2);
        faulty("^(", 2);
        faulty("craft ^", 2);
        faulty("craft a needs 1 loss 1^", 2);
        faulty("craft a needs 1 loss 1   ^", 2);
        faulty("craft a ^loss 1;", 2);
        faulty("craft a needs ^loss 1;", 2);
        faulty("craft a needs 1 ^needs 1;", 2);
        faulty("craft a needs 1 loss ^;", 2);
        faulty("craft a needs 1 loss 1 ^1;", 2);
        faulty("craft a^1", 2);
        faulty("craft ^5", 2);
        faulty("craft a needs ^8 loss 1;", 4);
        faulty("craft a needs ^9999 loss 1;", 4);
        faulty("craft a needs 7 loss ^100;", 4);
        faulty(CRAFT + "craft ^a needs 1 loss 1;", 3);
        faulty("man x of ^a loaves 1 debt 1;", 5);
        faulty("man x of ^a loaves 1 debt 1;" + CRAFT, 5);
        faulty(CRAFT + "man x of ^loaves 1 debt 1;", 2);
        faulty(CRAFT + "man x ^a loaves 1 debt 1;", 2);
        faulty(CRAFT + "man x of a ^a loaves 1 debt 1;", 3);
        faulty(CRAFT + "man x of a ^x loaves 1 debt 1;", 5);
        faulty(CRAFT + "man x of a ^1", 2);
        faulty(CRAFT + "man x of a ^", 2);
        faulty(CRAFT + "man x of a ^debt 1", 2);
        faulty(CRAFT + "man x of a loaves ^21 debt 1;", 4);
        faulty(CRAFT + "man x of a loaves 20 debt ^100;", 4);
        faulty(CRAFT + "man x of a loaves 20 debt 99 others ^7;", 4);
        faulty(CRAFT + "man x of a loaves 20 debt 99 others ^out;", 2);
        faulty(CRAFT + "man x of a loaves 20 debt 99 out ^others 1;", 2);
        faulty(CRAFT + "man x of a loaves 20 debt 99 out ^out;", 2);
        faulty(CRAFT + "man x of a loaves 20 ^others 1;", 2);
        faulty(MAN + "man ^x of a loaves 1 debt 1;", 3);
        faulty("demand d cost ^1000 worth 1;", 4);
        faulty("demand d cost 999 worth ^100;", 4);
        faulty("demand d ^worth 1 cost 1;", 2);
        faulty("demand d cost 1 worth 1;demand ^d cost 1 worth 1;", 3);
        faulty("foes ^101 raid 1;", 4);
        faulty("foes 100 raid ^1000;", 4);
        faulty("foes 1 ^;", 2);
        faulty("foes ^raid 1;", 2);
        faulty("draw ^1000;", 4);
        faulty("draw ^;", 2);
        faulty("draw ^x;", 2);
        sound(CRAFT + "man x of a loaves 20 debt 99 others 6 out;man a of a loaves 0 debt 0 others 0;", 2);
        sound(MAN + "demand x cost 999 worth 99;demand a cost 0 worth 0;", 1);
        sound("craft a needs 1 loss 1;craft aa needs 1 loss 1;craft ba needs 1 loss 1;craft ab needs 1 loss 1;"
            + "man z of a aa ba ab loaves 1 debt 1;man zz of ab loaves 1 debt 1;man zzzzzzzz of a loaves 1 debt 1;"
            + "man zzzzzzz of a loaves 1 debt 1;", 4);
        faulty("craft aa needs 1 loss 1;man x of ^a loaves 1 debt 1;", 5);
        faulty("craft azzzzzzz needs 1 loss 1;man x of ^zzzzzzz loaves 1 debt 1;", 5);
        sound("foes 100 raid 999;draw 999;", 0);
        sound("foes 0 raid 0;draw 0;", 0);
        for (String word : OWN_WORDS.split(" ")) {
            faulty("craft ^" + word + " needs 1 loss 1;", 2);
            faulty(CRAFT + "man ^" + word + " of a loaves 1 debt 1;", 2);
            faulty("demand ^" + word + " cost 1 worth 1;", 2);
        }
        for (String word : "line e both one sum term unit n name city s craf crafts manor".split(" ")) {
            sound("craft " + word + " needs 1 loss 1;man " + word + " of " + word + " loaves 1 debt 1;", 1);
        }
    }

    private static void tooMany() {
        StringBuilder crafts = new StringBuilder();
        for (int i = 0; i < 4; i++) {
            crafts.append("craft c").append((char) ('a' + i)).append(" needs 1 loss 1;");
        }
        sound(crafts.toString(), 0);
        faulty(crafts + " ^craft ca needs 9 loss 1;", 2);
        faulty(crafts + "man x of ca cb cc cd ^cd loaves 1 debt 1;", 3);
        faulty(crafts + "man x of ca cb cc cd ^ce loaves 1 debt 1;", 5);
        faulty(crafts + "man x of cd cc cb ca ^out loaves 1 debt 1;", 2);
        StringBuilder men = new StringBuilder(crafts);
        for (int i = 0; i < 7; i++) {
            men.append("man m").append((char) ('a' + i)).append(" of ca cb cc cd loaves 1 debt 1;");
        }
        sound(men.toString(), 7);
        faulty(men + "^man", 2);
        faulty(men + "^man $", 2);
        StringBuilder demands = new StringBuilder();
        for (int i = 0; i < 5; i++) {
            demands.append("demand d").append((char) ('a' + i)).append(" cost 1 worth 1;");
        }
        sound(demands.toString(), 0);
        faulty(demands + "^demand da cost 1000 worth 1;", 2);
        faulty("back 1; ^back 1;", 2);
        faulty("foes 1 raid 1; ^foes 1 raid 1;", 2);
        faulty("draw 1; ^draw 1;", 2);
        HillLeavers x = Due.with(men.toString() + demands);
        DUE.is("men", x.about(0), 7);
        DUE.is("crafts", x.about(1), 4);
        DUE.is("demands", x.about(2), 5);
    }

    private static void formulas() {
        faulty("back ^;", 2);
        faulty("back 1^", 2);
        faulty("back 1 ^1;", 2);
        faulty("back 1 < 1 ^< 1;", 2);
        faulty("back 1 = 1 ^> 1;", 2);
        faulty("back (1^;", 2);
        faulty("back (^);", 2);
        faulty("back 1^);", 2);
        faulty("back not^;", 2);
        faulty("back not ^or 1;", 2);
        faulty("back 1 + ^not 1;", 2);
        faulty("back 1 < ^not 1;", 2);
        faulty("back 1 ^not 1;", 2);
        faulty("back ^out;", 2);
        faulty("back ^bread;", 2);
        faulty("back ^-1;", 2);
        faulty("back 1 + ^+ 1;", 2);
        faulty("back 1 and ^;", 2);
        faulty("back 1 or ^and 1;", 2);
        faulty("back 1 ^short;", 2);
        faulty("back ^12345;", 1);
        faulty("back (1 ^$", 1);
        sound("back 9999;", 0);
        sound("back loaves or debt and others < gone + days - short * 2 / 3 % 4;", 0);
        sound("back not not 1 = 2 and not (1 or 2);", 0);
    }

    private static void unitsAndDepth() {
        String thirty = "1" + "+1".repeat(29);
        sound("back " + thirty + ";", 0);
        faulty("back " + thirty + "+^1;", 2);
        faulty("back " + thirty + "+^(1);", 2);
        faulty("back " + thirty + " ^1;", 2);
        faulty("back " + thirty + "+^$", 1);
        faulty("back " + thirty + " or ^days;", 2);
        faulty("back " + thirty + " or not ^days;", 2);
        String inside = "(1" + "+1".repeat(28) + ")";
        sound("back " + inside + ";", 0);
        faulty("back (" + "1+".repeat(29) + "^1);", 2);
        faulty("back (1" + "+1".repeat(14) + ")+(1" + "+1".repeat(12) + "+^1);", 2);
        sound("back (1" + "+1".repeat(14) + ")+(1" + "+1".repeat(12) + ");", 0);
        sound("back " + "(".repeat(7) + "1" + ")".repeat(7) + ";", 0);
        faulty("back " + "(".repeat(7) + "^(1" + ")".repeat(8) + ";", 2);
        sound("back " + "not ".repeat(7) + "1;", 0);
        faulty("back " + "not ".repeat(7) + "^not 1;", 2);
        faulty("back " + "not ".repeat(7) + "^(1);", 2);
        faulty("back " + "not (".repeat(3) + "not ^(1))));", 2);
        sound("back " + "not (".repeat(3) + "not 1" + ")".repeat(3) + ";", 0);
        sound("back " + "((".repeat(3) + "not 1" + "))".repeat(3) + ";", 0);
        sound("back not not not not not not not 1 and (1) or not not not not not not (1);", 0);
        // 30 units with seven nots ahead of each
        String nots = "not ".repeat(7) + "1";
        sound("back " + nots + (" or " + nots).repeat(29) + ";", 0);
        for (String sign : "or and + - * / %".split(" ")) {
            sound("back 1" + (" " + sign + " 1").repeat(29) + ";", 0);
            faulty("back 1" + (" " + sign + " 1").repeat(29) + " " + sign + " ^1;", 2);
            faulty("back (1" + (" " + sign + " 1").repeat(28) + " " + sign + " ^1);", 2);
        }
        HillLeavers x = Due.with("back (1 + 2) * loaves < 3;");
        DUE.is("units", x.about(13), 5);
        DUE.is("units of 30", Due.with("back " + thirty + ";").about(13), 30);
        DUE.is("units without", Due.with("draw 1;").about(13), 0);
    }

    /** One who is OUT goes BACK if the formula is not 0: bread of 3 loaves, 40 debts, 2 others, gone 1, days 0, 1 short. */
    private static void backIs(String formula, int want) {
        HillLeavers x = Due.with("craft a needs 1 loss 1;craft b needs 1 loss 1;"
            + "man x of a loaves 3 debt 40 others 2 out;man y of b loaves 9 debt 41 out;man z of a loaves 8 debt 42;"
            + "back " + formula + ";");
        DUE.is("back " + formula, x.man(0, 6), want);
    }

    private static void valueIs(String formula, String value) {
        backIs(formula + " = " + value, 1);
        backIs("not (" + formula + " = " + value + ")", 0);
    }

    private static void values() {
        valueIs("loaves", "3");
        valueIs("debt", "40");
        valueIs("others", "2");
        valueIs("gone", "1");
        valueIs("days", "0");
        valueIs("short", "1");
        valueIs("1 + 2 * 3", "7");
        valueIs("(1 + 2) * 3", "9");
        valueIs("10 - 3 - 2", "5");
        valueIs("100 / 5 / 2", "10");
        valueIs("100 / (5 / 2)", "50");
        valueIs("7 / 2", "3");
        valueIs("7 % 4", "3");
        valueIs("(0 - 7) / 2", "0 - 3");
        valueIs("(0 - 7) % 4", "0 - 3");
        valueIs("7 % (0 - 4)", "3");
        valueIs("7 / 0", "0");
        valueIs("7 % 0", "0");
        valueIs("2 * 3 % 4", "2");
        valueIs("20 % 7 * 2 / 3", "4");
        valueIs("(2 < 3)", "1");
        valueIs("(3 < 3)", "0");
        valueIs("(3 > 2)", "1");
        valueIs("(3 > 3)", "0");
        valueIs("(3 = 3)", "1");
        valueIs("(3 = 2)", "0");
        valueIs("(5 and 7)", "1");
        valueIs("(5 and 0)", "0");
        valueIs("(0 or 7)", "1");
        valueIs("(0 or 0)", "0");
        valueIs("(not 7)", "0");
        valueIs("(not 0)", "1");
        valueIs("(not not 7)", "1");
        valueIs("(7)", "7");
        // x is 1 - 2 * (x), seven times from 1 on: -1, 3, -5, 11, -21, 43, -85
        String deep = "1 - 2 * (".repeat(7) + "1" + ")".repeat(7);
        backIs(deep + " = 0 - 85", 1);
        backIs(deep + " = 85", 0);
        // five of each before the one inside
        String wide = "0 or 1 and 2 < 3 + 2 * (".repeat(4) + "0 or 1 and 2 < 0" + ")".repeat(4);
        backIs(wide, 1);
        backIs("7", 1);
        backIs("0", 0);
        backIs("0 - 1", 1);
        backIs("1 or 0 and 0", 1);
        backIs("0 and 0 or 1", 1);
        backIs("not 1 or 1", 1);
        backIs("not 0 and 0", 0);
        backIs("not 1 = 0", 1);
        backIs("1 + 1 < 3 and 2 > 1", 1);
        backIs("9999 * 9999 * 9999 < 0", 9999 * 9999 * 9999 < 0 ? 1 : 0);
        backIs("9999 * 9999 * 9999 * 9999 > 0", 9999 * 9999 * 9999 * 9999 > 0 ? 1 : 0);
        // 2 to the 31st is below 0; cut by -1 it stays what it is, its rest is 0
        valueIs("1024 * 1024 * 2048 / (0 - 1)", "1024 * 1024 * 2048");
        valueIs("1024 * 1024 * 2048 % (0 - 1)", "0");
        backIs("1024 * 1024 * 2048 < 0", 1);
    }
}
