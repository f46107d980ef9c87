/** Promises 6 to 20 and 53 to 55: what is told and what is now, ACTS, UNDO and REDO, BOXES. */
public final class TellingTest {
    private static final Due DUE = new Due("TellingTest");
    static final String HILL = "craft bread needs 2 loss 10; craft wall needs 1 loss 7; craft hay needs 0 loss 50;"
        + "man ann of bread loaves 2 debt 5; man bob of bread wall loaves 1 debt 9 others 1;"
        + "man cid of wall loaves 3 debt 0 others 2; man dan of hay bread loaves 20 debt 99 others 6 out;"
        + "demand vote cost 17 worth 9; demand corn cost 18 worth 5; demand land cost 0 worth 1;"
        + "foes 30 raid 50; draw 7;";
    /** Three MEN who never go BACK, whom nobody needs. */
    static final String CAMP = "craft a needs 0 loss 9;man p of a loaves 1 debt 1;man q of a loaves 2 debt 2;"
        + "man r of a loaves 3 debt 3;back 0;";
    private static final int MIN = Integer.MIN_VALUE;
    private static final int MAX = Integer.MAX_VALUE;

    public static void main(String[] args) {
        man();
        craft();
        demand();
        outAndLoss();
        broken();
        longest();
        hands();
        leaveAndHome();
        give();
        grant();
        day();
        following();
        goingBack();
        foes();
        lastDay();
        undoAndRedo();
        oldestActsGo();
        boxes();
        about();
        DUE.close();
    }

    private static void man() {
        HillLeavers x = Due.with(HILL);
        int[] ann = {0, 2, 0, 5, 0, 1, 0};
        int[] bob = {0, 1, 0, 9, 1, 3, 0};
        int[] dan = {1, 20, 0, 99, 6, 5, 1};
        for (int what = 0; what <= 6; what++) {
            DUE.is("man(0, " + what + ")", x.man(0, what), ann[what]);
            DUE.is("man(1, " + what + ")", x.man(1, what), bob[what]);
            DUE.is("man(3, " + what + ")", x.man(3, what), dan[what]);
        }
        for (int no : new int[] {-1, 4, 7, MIN, MAX}) {
            DUE.is("man(" + no + ", 0)", x.man(no, 0), -1);
        }
        for (int no : new int[] {-1, 7, MIN, MAX}) {
            DUE.is("man(0, " + no + ")", x.man(0, no), -1);
        }
        HillLeavers camp = Due.with(CAMP);
        camp.leave(1);
        camp.day();
        camp.day();
        camp.day();
        DUE.is("days out", camp.man(1, 2), 3);
        DUE.is("loaves eaten", camp.man(1, 1), 0);
        DUE.is("never back", camp.man(1, 6), 0);
        DUE.is("days in the city", camp.man(0, 2), 0);
        DUE.is("not eaten in the city", camp.man(0, 1), 1);
        // the DAY counts its own, the question does not
        HillLeavers two = Due.with("craft a needs 0 loss 0;man p of a loaves 9 debt 0 out;back days = 1;");
        DUE.is("back by the days of now", two.man(0, 6), 0);
        two.day();
        DUE.is("gone back on the day", two.out(), 0);
        DUE.is("in the city", two.man(0, 6), 0);
    }

    private static void craft() {
        HillLeavers x = Due.with(HILL);
        int[][] due = {{2, 2, 0, 10, 11}, {1, 2, 0, 7, 6}, {0, 0, 0, 50, 8}};
        for (int craft = 0; craft < 3; craft++) {
            for (int what = 0; what < 5; what++) {
                DUE.is("craft(" + craft + ", " + what + ")", x.craft(craft, what), due[craft][what]);
            }
        }
        for (int no : new int[] {-1, 3, 4, MIN, MAX}) {
            DUE.is("craft(" + no + ", 0)", x.craft(no, 0), -1);
        }
        for (int no : new int[] {-1, 5, MIN, MAX}) {
            DUE.is("craft(0, " + no + ")", x.craft(0, no), -1);
        }
        x.leave(0);
        DUE.is("hands", x.craft(0, 1), 1);
        DUE.is("short", x.craft(0, 2), 1);
        x.leave(1);
        DUE.is("hands", x.craft(0, 1), 0);
        DUE.is("wall is not short", x.craft(1, 2), 0);
        x.leave(2);
        DUE.is("wall is short", x.craft(1, 2), 1);
        DUE.is("nobody is needed for hay", x.craft(2, 2), 0);
    }

    private static void demand() {
        HillLeavers x = Due.with(HILL);
        int[][] due = {{17, 9, 0, 0}, {18, 5, 0, 0}, {0, 1, 0, 0}};
        int[][] granted = {{17, 9, 1, 1}, {18, 5, 1, 0}, {0, 1, 1, 1}};
        for (int demand = 0; demand < 3; demand++) {
            for (int what = 0; what < 4; what++) {
                DUE.is("demand(" + demand + ", " + what + ")", x.demand(demand, what), due[demand][what]);
            }
            x.grant(demand);
            for (int what = 0; what < 4; what++) {
                DUE.is("granted demand(" + demand + ", " + what + ")", x.demand(demand, what), granted[demand][what]);
            }
        }
        for (int no : new int[] {-1, 3, 5, MIN, MAX}) {
            DUE.is("demand(" + no + ", 0)", x.demand(no, 0), -1);
        }
        for (int no : new int[] {-1, 4, MIN, MAX}) {
            DUE.is("demand(0, " + no + ")", x.demand(0, no), -1);
        }
    }

    private static void outAndLoss() {
        HillLeavers x = Due.with(HILL);
        DUE.is("out", x.out(), 8);
        DUE.is("loss(0)", x.loss(0), 0);
        DUE.is("loss(1)", x.loss(1), 17);
        DUE.is("loss(2)", x.loss(2), -1);
        DUE.is("loss(-1)", x.loss(-1), -1);
        x.leave(0);
        DUE.is("out", x.out(), 9);
        DUE.is("loss(0)", x.loss(0), 10);
        x.leave(1);
        x.leave(2);
        DUE.is("out", x.out(), 15);
        DUE.is("loss(0)", x.loss(0), 17);
        x.home(3);
        DUE.is("out", x.out(), 7);
        DUE.is("loss(0)", x.loss(0), 17);
        DUE.is("loss of who are always too few", Due.with("craft a needs 1 loss 9;").loss(0), 9);
        DUE.is("loss of who are always too few", Due.with("craft a needs 1 loss 9;").loss(1), 9);
    }

    private static void broken() {
        HillLeavers x = Due.with(HILL);
        DUE.is("broken", x.broken(), 0);
        x.grant(0);
        x.grant(2);
        DUE.is("broken", x.broken(), 0);
        x.grant(1);
        DUE.is("broken", x.broken(), 2);
        x.undo();
        DUE.is("broken", x.broken(), 0);
        HillLeavers y = Due.with("demand a cost 0 worth 1;demand b cost 1 worth 1;demand c cost 999 worth 1;");
        y.grant(0);
        y.grant(1);
        y.grant(2);
        DUE.is("broken of no loss", y.broken(), 6);
        HillLeavers z = Due.with("demand a cost 1 worth 1;demand b cost 1 worth 1;demand c cost 1 worth 1;"
            + "demand d cost 1 worth 1;demand e cost 1 worth 1;");
        for (int demand = 0; demand < 5; demand++) {
            z.grant(demand);
        }
        DUE.is("all broken", z.broken(), 31);
    }

    private static void longest() {
        HillLeavers x = Due.with(CAMP);
        DUE.is("longest of none", x.longest(), -1);
        x.leave(2);
        DUE.is("longest", x.longest(), 2);
        x.leave(1);
        DUE.is("longest of like ones", x.longest(), 1);
        x.home(1);
        x.day();
        x.leave(1);
        x.leave(0);
        DUE.is("longest", x.longest(), 2);
        x.day();
        DUE.is("longest", x.longest(), 2);
        x.home(2);
        DUE.is("longest of like ones", x.longest(), 0);
        x.home(0);
        DUE.is("longest", x.longest(), 1);
    }

    private static void hands() {
        HillLeavers x = Due.with(HILL);
        int[][] due = {{2, 3}, {2, 2}, {0, 1}};
        for (int craft = 0; craft < 3; craft++) {
            DUE.is("hands now", x.hands(craft, 0), due[craft][0]);
            DUE.is("hands behind 1", x.hands(craft, 1), due[craft][1]);
            DUE.is("hands behind 60", x.hands(craft, 60), due[craft][1]);
        }
        DUE.is("nothing is done", x.about(3), 0);
        for (int no : new int[] {-1, 61, MIN, MAX}) {
            DUE.is("hands(0, " + no + ")", x.hands(0, no), -1);
        }
        for (int no : new int[] {-1, 3, 4, MIN, MAX}) {
            DUE.is("hands(" + no + ", 0)", x.hands(no, 0), -1);
        }
    }

    private static void leaveAndHome() {
        HillLeavers x = Due.with(HILL);
        DUE.is("leave", x.leave(0), 2);
        for (int no : new int[] {0, 3, 4, 7, -1, MIN, MAX}) {
            DUE.is("leave(" + no + ")", x.leave(no), -1);
        }
        DUE.is("one act", x.about(8), 1);
        DUE.is("leave", x.leave(2), 3);
        DUE.is("home", x.home(2), 0);
        for (int no : new int[] {1, 2, 4, 7, -1, MIN, MAX}) {
            DUE.is("home(" + no + ")", x.home(no), -1);
        }
        DUE.is("acts", x.about(8), 3);
        DUE.is("out", x.out(), 9);
        HillLeavers camp = Due.with(CAMP);
        camp.leave(0);
        camp.day();
        camp.day();
        DUE.is("days", camp.man(0, 2), 2);
        DUE.is("home", camp.home(0), 2);
        DUE.is("days at home", camp.man(0, 2), 0);
        DUE.is("leave again", camp.leave(0), 1);
        DUE.is("days again", camp.man(0, 2), 0);
        DUE.is("loaves are not given again", camp.man(0, 1), 0);
    }

    private static void give() {
        HillLeavers x = Due.with(HILL);
        DUE.is("give", x.give(0, 1), 3);
        DUE.is("give to one out", x.give(3, 78), 98);
        for (int no : new int[] {0, 100, -1, MIN, MAX}) {
            DUE.is("give(0, " + no + ")", x.give(0, no), -1);
        }
        for (int no : new int[] {4, 7, -1, MIN, MAX}) {
            DUE.is("give(" + no + ", 1)", x.give(no, 1), -1);
        }
        DUE.is("acts", x.about(8), 2);
        DUE.is("give to 99", x.give(3, 1), 99);
        DUE.is("give above 99", x.give(3, 1), 99);
        DUE.is("give 99", x.give(0, 99), 99);
        DUE.is("acts", x.about(8), 5);
        DUE.is("loaves", x.man(0, 1), 99);
        x.undo();
        DUE.is("loaves", x.man(0, 1), 3);
    }

    private static void grant() {
        HillLeavers x = Due.with(HILL);
        DUE.is("grant", x.grant(0), 17);
        DUE.is("grant again", x.grant(0), -1);
        DUE.is("grant", x.grant(1), 35);
        DUE.is("grant for nothing", x.grant(2), 35);
        for (int no : new int[] {2, 3, 5, -1, MIN, MAX}) {
            DUE.is("grant(" + no + ")", x.grant(no), -1);
        }
        DUE.is("acts", x.about(8), 3);
        DUE.is("lost", x.about(5), 35);
        x.day();
        DUE.is("lost", x.about(5), 45);
        x.undo();
        x.undo();
        DUE.is("granted for nothing, taken back", x.grant(2), 35);
    }

    private static void day() {
        HillLeavers x = Due.with(HILL);
        DUE.is("day 1", x.day(), 10);
        int[] due = {4, 3, 3, 1, 30, 10, 0, 0, 1, 0};
        for (int what = 0; what < due.length; what++) {
            DUE.is("about " + what, x.about(what), due[what]);
        }
        DUE.is("all are back", x.out(), 0);
        DUE.is("dan ate", x.man(3, 1), 19);
        DUE.is("bob ate", x.man(1, 1), 0);
        DUE.is("ann did not", x.man(0, 1), 2);
        DUE.is("no days", x.man(3, 2), 0);
        DUE.is("day 2", x.day(), 0);
        DUE.is("seed", x.about(4), 181);
        DUE.is("day", x.about(3), 2);
    }

    private static void following() {
        HillLeavers x = Due.with("craft a needs 0 loss 0;man p of a loaves 9 debt 0 others 1;"
            + "man q of a loaves 9 debt 0 others 2;man r of a loaves 9 debt 0;man s of a loaves 9 debt 0 others 3;back 0;");
        x.day();
        DUE.is("nobody follows nobody", x.out(), 0);
        x.leave(2);
        x.day();
        DUE.is("by who is out at the beginning", x.out(), 5);
        DUE.is("days of one who followed", x.man(0, 2), 1);
        DUE.is("he ate", x.man(0, 1), 8);
        x.day();
        DUE.is("two are out", x.out(), 7);
        DUE.is("days", x.man(0, 2), 2);
        DUE.is("days", x.man(1, 2), 1);
        x.home(2);
        x.day();
        DUE.is("who told none does not follow", x.out(), 3);
        x.leave(2);
        x.day();
        DUE.is("three are out", x.out(), 15);
    }

    private static void goingBack() {
        // by what is so at the beginning: p stays with q, who goes back at the same time
        HillLeavers x = Due.with("craft a needs 0 loss 0;man p of a loaves 9 debt 0 others 1 out;"
            + "man q of a loaves 1 debt 0 out;");
        DUE.is("q would stay", x.man(1, 6), 0);
        x.day();
        DUE.is("q is back", x.out(), 1);
        DUE.is("p would go", x.man(0, 6), 1);
        x.day();
        DUE.is("p is back", x.out(), 0);
        HillLeavers days = Due.with("craft a needs 0 loss 0;man p of a loaves 0 debt 0 out;back days > 1;");
        days.day();
        DUE.is("behind a day", days.out(), 1);
        days.day();
        DUE.is("behind two", days.out(), 0);
        // short by who is out ahead of going back, gone without oneself
        HillLeavers shorts = Due.with("craft a needs 1 loss 5;craft b needs 1 loss 5;man p of a loaves 9 debt 0 out;"
            + "man q of b loaves 9 debt 0;back short > 1 or gone > 1;");
        shorts.day();
        DUE.is("one is short", shorts.out(), 1);
        shorts.leave(1);
        shorts.day();
        DUE.is("two are short", shorts.out(), 0);
        // loaves behind eating
        HillLeavers loaves = Due.with("craft a needs 0 loss 0;man p of a loaves 3 debt 0 out;back loaves = 1;");
        loaves.day();
        DUE.is("two loaves", loaves.out(), 1);
        loaves.day();
        DUE.is("one loaf", loaves.out(), 0);
        // without back: no loaves
        HillLeavers none = Due.with("craft a needs 0 loss 0;man p of a loaves 0 debt 0 out;");
        DUE.is("no loaves", none.man(0, 6), 1);
        none.day();
        DUE.is("gone back", none.out(), 0);
        DUE.is("no loaves below none", none.man(0, 1), 0);
        HillLeavers debt = Due.with("craft a needs 0 loss 0;man p of a loaves 9 debt 7 out;man q of a loaves 9 debt 8 out;"
            + "back debt < 8;");
        debt.day();
        DUE.is("each by his debt", debt.out(), 2);
    }

    private static void foes() {
        HillLeavers x = Due.with("craft a needs 1 loss 9;craft b needs 1 loss 1;foes 15 raid 100;draw 7;");
        // seed 7, 30, 181, 868: 30 is not less than 15 by 2 SHORT
        DUE.is("no foe", x.day(), 10);
        DUE.is("seed", x.about(4), 30);
        DUE.is("no foe", x.day(), 10);
        DUE.is("no foe", x.about(6), 0);
        HillLeavers y = Due.with("craft a needs 1 loss 9;craft b needs 1 loss 1;foes 16 raid 100;draw 7;");
        DUE.is("a foe", y.day(), 110);
        DUE.is("foes", y.about(6), 1);
        DUE.is("lost", y.about(5), 110);
        DUE.is("no foe", y.day(), 10);
        DUE.is("seed", y.about(4), 181);
        DUE.is("foes", y.about(6), 1);
        HillLeavers none = Due.with("craft a needs 0 loss 9;foes 100 raid 100;");
        DUE.is("nothing is short", none.day(), 0);
        HillLeavers sure = Due.with("craft a needs 1 loss 9;craft b needs 1 loss 1;foes 100 raid 999;draw 999;");
        for (int day = 1; day <= 20; day++) {
            DUE.is("always a foe", sure.day(), 1009);
            DUE.is("foes", sure.about(6), day);
        }
        HillLeavers untold = Due.with("craft a needs 1 loss 9;");
        for (int day = 1; day <= 20; day++) {
            DUE.is("no foes told", untold.day(), 9);
        }
        // what is SHORT by those who followed on the day
        HillLeavers follow = Due.with("craft a needs 1 loss 9;craft b needs 0 loss 0;man p of a loaves 1 debt 0 others 1;"
            + "man q of b loaves 5 debt 0 out;foes 100 raid 5;");
        DUE.is("short by who followed", follow.day(), 14);
        DUE.is("p is back", follow.out(), 2);
    }

    private static void lastDay() {
        HillLeavers x = Due.with("craft a needs 1 loss 9;");
        for (int day = 1; day <= 999; day++) {
            DUE.is("day " + day, x.day(), 9);
        }
        DUE.is("behind 999", x.day(), -1);
        DUE.is("day", x.about(3), 999);
        DUE.is("acts", x.about(8), 40);
        DUE.is("what lies ahead goes on", x.costs(60), 540);
        x.undo();
        DUE.is("again", x.day(), 9);
    }

    private static void undoAndRedo() {
        HillLeavers x = Due.with(HILL);
        DUE.is("undo of none", x.undo(), false);
        DUE.is("redo of none", x.redo(), false);
        x.leave(0);
        x.give(1, 5);
        x.grant(1);
        x.home(3);
        x.day();
        int[] end = {x.out(), x.man(0, 1), x.man(0, 2), x.man(1, 1), x.about(3), x.about(4), x.about(5), x.about(6)};
        DUE.is("acts", x.about(8), 5);
        DUE.is("undo the day", x.undo(), true);
        DUE.is("out", x.out(), 1);
        DUE.is("day", x.about(3), 0);
        DUE.is("seed", x.about(4), 7);
        DUE.is("lost", x.about(5), 18);
        DUE.is("undo home", x.undo(), true);
        DUE.is("out", x.out(), 9);
        DUE.is("undo grant", x.undo(), true);
        DUE.is("granted", x.demand(1, 2), 0);
        DUE.is("lost", x.about(5), 0);
        DUE.is("undo give", x.undo(), true);
        DUE.is("loaves", x.man(1, 1), 1);
        DUE.is("acts to undo", x.about(8), 1);
        DUE.is("acts to redo", x.about(9), 4);
        DUE.is("undo leave", x.undo(), true);
        DUE.is("out", x.out(), 8);
        DUE.is("undo no more", x.undo(), false);
        for (int i = 0; i < 5; i++) {
            DUE.is("redo", x.redo(), true);
        }
        DUE.is("redo no more", x.redo(), false);
        int[] again = {x.out(), x.man(0, 1), x.man(0, 2), x.man(1, 1), x.about(3), x.about(4), x.about(5), x.about(6)};
        for (int i = 0; i < end.length; i++) {
            DUE.is("all is again as it was " + i, again[i], end[i]);
        }
        x.undo();
        x.undo();
        DUE.is("what does nothing is no act", x.leave(0), -1);
        x.seen(0, true);
        x.image(2);
        DUE.is("redo is still there", x.about(9), 2);
        x.give(0, 1);
        DUE.is("another act", x.about(9), 0);
        DUE.is("no redo", x.redo(), false);
        DUE.is("acts", x.about(8), 4);
        DUE.is("undo does not untell", x.about(10), 1);
    }

    private static void oldestActsGo() {
        HillLeavers x = Due.with(CAMP);
        for (int i = 1; i <= 45; i++) {
            x.give(0, 1);
            DUE.is("acts " + i, x.about(8), Math.min(40, i));
        }
        DUE.is("loaves", x.man(0, 1), 46);
        for (int i = 1; i <= 40; i++) {
            DUE.is("undo " + i, x.undo(), true);
            DUE.is("loaves", x.man(0, 1), 46 - i);
        }
        DUE.is("undo no more", x.undo(), false);
        DUE.is("redoes", x.about(9), 40);
        for (int i = 1; i <= 40; i++) {
            DUE.is("redo " + i, x.redo(), true);
            DUE.is("loaves", x.man(0, 1), 6 + i);
        }
        DUE.is("redo no more", x.redo(), false);
        x.give(0, 1);
        DUE.is("acts", x.about(8), 40);
        x.undo();
        x.undo();
        x.give(1, 1);
        DUE.is("acts", x.about(8), 39);
        DUE.is("loaves", x.man(0, 1), 45);
        x.undo();
        DUE.is("loaves of the other", x.man(1, 1), 2);
        HillLeavers y = Due.with(CAMP);
        for (int i = 0; i < 150; i++) {
            y.day();
        }
        for (int i = 1; i <= 40; i++) {
            DUE.is("undo of 150", y.undo(), true);
            DUE.is("day", y.about(3), 150 - i);
        }
        DUE.is("undo no more", y.undo(), false);
        for (int i = 1; i <= 40; i++) {
            DUE.is("redo", y.redo(), true);
            DUE.is("day", y.about(3), 110 + i);
        }
        DUE.is("redo no more", y.redo(), false);
    }

    private static void boxes() {
        HillLeavers x = Due.with(HILL);
        for (int no : new int[] {-1, 3, MIN, MAX}) {
            DUE.is("image(" + no + ")", x.image(no), -1);
            DUE.is("back(" + no + ")", x.back(no), -1);
        }
        for (int box = 0; box < 3; box++) {
            DUE.is("empty box", x.back(box), -1);
        }
        DUE.is("image", x.image(0), 0);
        x.leave(0);
        x.grant(1);
        x.give(2, 9);
        x.day();
        x.day();
        DUE.is("image", x.image(2), 2);
        int[] then = new int[14];
        for (int what = 3; what <= 7; what++) {
            then[what] = x.about(what);
        }
        int out = x.out();
        x.day();
        x.undo();
        x.seen(1, true);
        x.later(3);
        DUE.is("back(1)", x.back(1), -1);
        DUE.is("acts stay", x.about(8), 5);
        DUE.is("back(0)", x.back(0), 0);
        DUE.is("out", x.out(), 8);
        DUE.is("loaves", x.man(2, 1), 3);
        DUE.is("granted", x.demand(1, 2), 0);
        DUE.is("seed", x.about(4), 7);
        DUE.is("lost", x.about(5), 0);
        DUE.is("acts", x.about(8), 0);
        DUE.is("redoes", x.about(9), 0);
        DUE.is("undo", x.undo(), false);
        DUE.is("redo", x.redo(), false);
        DUE.is("seen stays", x.about(10), 1);
        DUE.is("time stays", x.about(11), 3);
        x.leave(1);
        DUE.is("back(2)", x.back(2), 2);
        for (int what = 3; what <= 7; what++) {
            DUE.is("about " + what, x.about(what), then[what]);
        }
        DUE.is("out", x.out(), out);
        DUE.is("loaves", x.man(2, 1), 10);
        DUE.is("granted", x.demand(1, 2), 1);
        DUE.is("back once more", x.back(0), 0);
        DUE.is("out", x.out(), 8);
        x.leave(2);
        DUE.is("image over another", x.image(0), 0);
        x.home(2);
        x.back(0);
        DUE.is("out", x.out(), 12);
        HillLeavers days = Due.with(CAMP);
        days.leave(1);
        days.day();
        days.image(1);
        days.day();
        days.day();
        days.back(1);
        DUE.is("days out", days.man(1, 2), 1);
    }

    private static void about() {
        HillLeavers x = Due.with(HILL);
        int[] due = {4, 3, 3, 0, 7, 0, 0, 0, 0, 0, 0, 0, 0, 0};
        for (int what = 0; what < due.length; what++) {
            DUE.is("about(" + what + ")", x.about(what), due[what]);
        }
        for (int no : new int[] {-1, 14, MIN, MAX}) {
            DUE.is("about(" + no + ")", x.about(no), -1);
        }
        x.leave(0);
        x.leave(1);
        x.leave(2);
        DUE.is("short", x.about(7), 3);
        x.undo();
        DUE.is("short", x.about(7), 1);
        DUE.is("undoes", x.about(8), 2);
        DUE.is("redoes", x.about(9), 1);
        Due.feed(x, "abc");
        DUE.is("bytes", x.about(12), 3);
    }
}
