/** Promises 21 to 44: who follows, which CRAFTS are SHORT, loaves, and what lies ahead. */
public final class AskingTest {
    private static final Due DUE = new Due("AskingTest");
    private static final String HILL = TellingTest.HILL;
    private static final String CAMP = TellingTest.CAMP;
    private static final int MIN = Integer.MIN_VALUE;
    private static final int MAX = Integer.MAX_VALUE;
    private static final int[] NO_PARTS = {-1, 2, 3, MIN, MAX};
    private static final int[] NO_COUNTS = {0, -1, 61, MIN, MAX};
    private static final int[] NO_AHEADS = {-1, 61, MIN, MAX};

    public static void main(String[] args) {
        spread();
        spark();
        stop();
        pillars();
        idle();
        dearest();
        twins();
        stock();
        hungry();
        returns();
        plan();
        bribe();
        ever();
        press();
        pays();
        weight();
        will();
        lasts();
        costs();
        weakest();
        offer();
        until();
        feeds();
        odds();
        DUE.close();
    }

    private static void spread() {
        HillLeavers x = Due.with(HILL);
        DUE.is("spread of none", x.spread(0), 14);
        DUE.is("spread of ann", x.spread(1), 15);
        DUE.is("spread of one out", x.spread(8), 14);
        DUE.is("nothing is done", x.out(), 8);
        for (int no : new int[] {16, 31, 64, 128, -1, MIN, MAX}) {
            DUE.is("spread(" + no + ")", x.spread(no), -1);
        }
        // a chain of seven, each round one more
        StringBuilder chain = new StringBuilder("craft a needs 0 loss 0;");
        for (int i = 0; i < 7; i++) {
            chain.append("man ").append((char) ('p' + i)).append(" of a loaves 0 debt 0 others ").append(i).append(';');
        }
        HillLeavers y = Due.with(chain.toString());
        DUE.is("spread of the first", y.spread(1), 127);
        DUE.is("spread of the second", y.spread(2), 2);
        DUE.is("spread of the third", y.spread(4), 6);
        DUE.is("spread of none", y.spread(0), 0);
        DUE.is("spread of all", y.spread(127), 127);
        DUE.is("spread(128)", y.spread(128), -1);
    }

    private static void spark() {
        HillLeavers x = Due.with(HILL);
        x.plan(60, 0);
        DUE.is("spark(0)", x.spark(0), 1);
        DUE.is("spark(1)", x.spark(1), 1);
        for (int no : NO_PARTS) {
            DUE.is("spark(" + no + ")", x.spark(no), -1);
        }
        x.leave(0);
        DUE.is("none has to leave", x.spark(0), 0);
        DUE.is("none has to leave", x.spark(1), 0);
        HillLeavers camp = Due.with(CAMP);
        DUE.is("nobody follows", camp.spark(0), 3);
        DUE.is("nobody follows", camp.spark(1), 7);
        camp.leave(1);
        DUE.is("one is out", camp.spark(0), 2);
        DUE.is("one is out", camp.spark(1), 5);
        HillLeavers like = Due.with("craft a needs 0 loss 0;man p of a loaves 0 debt 0 others 3;"
            + "man q of a loaves 0 debt 0 others 2;man r of a loaves 0 debt 0 others 2;man s of a loaves 0 debt 0 others 2;");
        DUE.is("of like ones", like.spark(0), 2);
        DUE.is("the least set", like.spark(1), 3);
    }

    private static void stop() {
        HillLeavers x = Due.with(HILL);
        int[][] due = {{0, 0}, {1, 1}, {2, 6}, {2, 6}};
        for (int set = 0; set < 4; set++) {
            DUE.is("stop(" + set + ", 0)", x.stop(set, 0), due[set][0]);
            DUE.is("stop(" + set + ", 1)", x.stop(set, 1), due[set][1]);
        }
        for (int set = 4; set < 8; set++) {
            DUE.is("hay is never short", x.stop(set, 0), -1);
            DUE.is("hay is never short", x.stop(set, 1), -1);
        }
        for (int no : new int[] {8, 9, 16, -1, MIN, MAX}) {
            DUE.is("stop(" + no + ", 0)", x.stop(no, 0), -1);
        }
        for (int no : NO_PARTS) {
            DUE.is("stop(1, " + no + ")", x.stop(1, no), -1);
        }
        x.leave(1);
        DUE.is("short already", x.stop(1, 0), 0);
        DUE.is("one more", x.stop(3, 0), 1);
        DUE.is("one more", x.stop(3, 1), 4);
    }

    private static void pillars() {
        HillLeavers x = Due.with(HILL);
        DUE.is("nothing is short", x.pillars(), 0);
        x.leave(0);
        DUE.is("ann or dan", x.pillars(), 9);
        x.leave(1);
        DUE.is("one is not enough", x.pillars(), 0);
        x.leave(2);
        DUE.is("bob or cid", x.pillars(), 6);
    }

    private static void idle() {
        HillLeavers x = Due.with(HILL);
        DUE.is("idle", x.idle(), 4);
        x.leave(0);
        DUE.is("bread is short now", x.idle(), 6);
        x.leave(1);
        DUE.is("the last of wall", x.idle(), 0);
        x.leave(2);
        DUE.is("nobody is there", x.idle(), 0);
        x.home(3);
        DUE.is("dan", x.idle(), 8);
        HillLeavers camp = Due.with(CAMP);
        DUE.is("all", camp.idle(), 7);
        camp.leave(0);
        DUE.is("who is there", camp.idle(), 6);
    }

    private static void dearest() {
        HillLeavers x = Due.with(HILL);
        DUE.is("first of like ones", x.dearest(), 0);
        x.leave(0);
        DUE.is("first of like ones", x.dearest(), 1);
        x.leave(1);
        DUE.is("who is there", x.dearest(), 2);
        x.leave(2);
        DUE.is("none is there", x.dearest(), -1);
        x.home(0);
        x.home(1);
        x.home(2);
        x.home(3);
        DUE.is("no loss by any", x.dearest(), 0);
        HillLeavers y = Due.with("craft a needs 1 loss 3;craft b needs 1 loss 4;man p of a loaves 0 debt 0;"
            + "man q of b loaves 0 debt 0;man r of a loaves 0 debt 0;");
        DUE.is("most", y.dearest(), 1);
    }

    private static void twins() {
        DUE.is("none", Due.with(HILL).twins(), 0);
        DUE.is("three", Due.with(CAMP).twins(), 3);
        HillLeavers x = Due.with("craft a needs 1 loss 3;craft b needs 1 loss 4;man p of a b loaves 0 debt 0;"
            + "man q of b a loaves 0 debt 0;man r of a loaves 0 debt 0;man s of b loaves 0 debt 0;man t of b loaves 0 debt 0 out;");
        DUE.is("two twos", x.twins(), 2);
        DUE.is("one man", Due.with("craft a needs 1 loss 3;man p of a loaves 0 debt 0;").twins(), 0);
    }

    private static void stock() {
        HillLeavers x = Due.with(HILL);
        DUE.is("20 by 1", x.stock(), 20);
        x.leave(0);
        DUE.is("22 by 2", x.stock(), 11);
        x.leave(1);
        DUE.is("23 by 3", x.stock(), 7);
        x.home(3);
        DUE.is("3 by 2", x.stock(), 1);
        x.home(0);
        x.home(1);
        DUE.is("nobody", x.stock(), -1);
    }

    private static void hungry() {
        HillLeavers x = Due.with(CAMP);
        x.leave(0);
        x.leave(2);
        DUE.is("now", x.hungry(0), 0);
        DUE.is("behind 1", x.hungry(1), 1);
        DUE.is("behind 2", x.hungry(2), 1);
        DUE.is("behind 3", x.hungry(3), 5);
        DUE.is("behind 60", x.hungry(60), 5);
        for (int no : NO_AHEADS) {
            DUE.is("hungry(" + no + ")", x.hungry(no), -1);
        }
        x.give(0, 1);
        DUE.is("fed, behind 1", x.hungry(1), 0);
        DUE.is("fed, behind 2", x.hungry(2), 1);
        HillLeavers none = Due.with("craft a needs 0 loss 0;man p of a loaves 0 debt 0;man q of a loaves 0 debt 0 out;");
        DUE.is("out alone", none.hungry(0), 2);
        DUE.is("gone back", none.hungry(1), 0);
    }

    private static void returns() {
        HillLeavers x = Due.with(HILL);
        DUE.is("dan", x.returns(3), 1);
        for (int no : new int[] {0, 1, 2, 4, 7, -1, MIN, MAX}) {
            DUE.is("returns(" + no + ")", x.returns(no), -1);
        }
        DUE.is("on day 60", lone("back days > 59;").returns(0), 60);
        DUE.is("on day 61", lone("back days > 60;").returns(0), -1);
        DUE.is("never", lone("back 0;").returns(0), -1);
        // he goes back, follows, and goes back again: the first counts
        HillLeavers again = Due.with("craft a needs 0 loss 0;man p of a loaves 0 debt 0 out;"
            + "man q of a loaves 0 debt 9 others 1 out;back debt > 0 and days > 1;");
        DUE.is("first", again.returns(1), 2);
        DUE.is("again out", again.will(3), 3);
    }

    /** One MAN who is OUT, with a loaf, whom bread needs. */
    private static HillLeavers lone(String more) {
        return Due.with("craft bread needs 1 loss 10;man p of bread loaves 1 debt 0 out;" + more);
    }

    private static void plan() {
        HillLeavers x = Due.with(HILL);
        DUE.is("as much or more in 60 days", x.plan(60, 0) >= 67, true);
        DUE.is("plan(1, 0)", x.plan(1, 0), 67);
        DUE.is("plan(1, 1)", x.plan(1, 1), 1);
        for (int no : NO_COUNTS) {
            DUE.is("plan(" + no + ", 0)", x.plan(no, 0), -1);
        }
        for (int no : NO_PARTS) {
            DUE.is("plan(1, " + no + ")", x.plan(1, no), -1);
        }
        HillLeavers camp = Due.with(CAMP);
        DUE.is("no loss", camp.plan(60, 0), 0);
        DUE.is("nobody should", camp.plan(60, 1), 0);
        String four = "craft a needs 1 loss 9;man p of a loaves 0 debt 0;man q of a loaves 0 debt 0;"
            + "man r of a loaves 0 debt 0;man s of a loaves 0 debt 0";
        DUE.is("three are not enough", Due.with(four + ";back 0;").plan(2, 0), 0);
        DUE.is("three are not enough", Due.with(four + ";back 0;").plan(2, 1), 0);
        DUE.is("one is out", Due.with(four + " out;back 0;").plan(2, 0), 18);
        DUE.is("one is out", Due.with(four + " out;back 0;").plan(2, 1), 7);
        // who follows need not leave, but it is a day earlier if he does
        String follows = "craft a needs 1 loss 9;craft b needs 0 loss 0;man p of a loaves 0 debt 0 others 2;"
            + "man q of b loaves 0 debt 0;man r of b loaves 0 debt 0;back 0;";
        DUE.is("the fewest", Due.with(follows).plan(3, 1), 1);
        DUE.is("lost", Due.with(follows).plan(3, 0), 27);
        HillLeavers days = Due.with("craft a needs 1 loss 9;man p of a loaves 9 debt 0;back days > 4;");
        DUE.is("four days", days.plan(4, 0), 36);
        DUE.is("60 days", days.plan(60, 0), 45);
        DUE.is("60 days", days.plan(60, 1), 1);
        DUE.is("nothing is done", days.out(), 0);
        HillLeavers foe = Due.with("craft a needs 1 loss 9;man p of a loaves 9 debt 0;back 0;foes 100 raid 5;");
        DUE.is("with foes", foe.plan(2, 0), 28);
    }

    private static void bribe() {
        String two = "craft a needs 0 loss 0;man p of a loaves 9 debt 0 out;man q of a loaves 9 debt 0 out;";
        HillLeavers x = Due.with(two + "back days > 2;");
        DUE.is("both go back", x.bribe(3, 0), 0);
        DUE.is("both go back", x.bribe(3, 1), 0);
        DUE.is("both must", x.bribe(2, 0), 2);
        DUE.is("both must", x.bribe(2, 1), 3);
        for (int no : NO_COUNTS) {
            DUE.is("bribe(" + no + ", 0)", x.bribe(no, 0), -1);
        }
        for (int no : NO_PARTS) {
            DUE.is("bribe(1, " + no + ")", x.bribe(1, no), -1);
        }
        DUE.is("nothing is done", x.out(), 3);
        // p follows again if q stays
        HillLeavers follow = Due.with("craft a needs 0 loss 0;man p of a loaves 20 debt 0 others 1 out;"
            + "man q of a loaves 20 debt 0 out;");
        DUE.is("q", follow.bribe(1, 0), 1);
        DUE.is("q", follow.bribe(1, 1), 2);
        DUE.is("q by days", follow.bribe(19, 1), 2);
        DUE.is("q has eaten", follow.bribe(21, 0), 0);
        HillLeavers like = Due.with(two + "man r of a loaves 9 debt 0 out;back gone < 2;");
        DUE.is("one of three", like.bribe(1, 0), 1);
        DUE.is("the least set", like.bribe(1, 1), 1);
        DUE.is("nobody is out", Due.with(CAMP).bribe(1, 0), 0);
        DUE.is("nobody is out", Due.with(CAMP).bribe(1, 1), 0);
    }

    private static void ever() {
        HillLeavers x = Due.with(HILL);
        DUE.is("bob was back by the end", x.ever(1), 8);
        x.leave(2);
        // cid stays with dan and bob on the first day, with nobody on the second
        DUE.is("or now", x.ever(60), 12);
        for (int no : NO_COUNTS) {
            DUE.is("ever(" + no + ")", x.ever(no), -1);
        }
        HillLeavers chain = Due.with("craft a needs 0 loss 0;man p of a loaves 9 debt 0 out;"
            + "man q of a loaves 9 debt 0 others 1;man r of a loaves 9 debt 0 others 2;back 0;");
        DUE.is("one day", chain.ever(1), 3);
        DUE.is("two days", chain.ever(2), 7);
    }

    private static void press() {
        HillLeavers x = Due.with(HILL);
        int[][] due = {{0, 0}, {10, 1}, {17, 6}, {17, 6}, {17, 6}, {17, 6}, {17, 6}, {17, 6}};
        for (int most = 0; most <= 7; most++) {
            DUE.is("press(" + most + ", 0)", x.press(most, 0), due[most][0]);
            DUE.is("press(" + most + ", 1)", x.press(most, 1), due[most][1]);
        }
        for (int no : new int[] {8, -1, MIN, MAX}) {
            DUE.is("press(" + no + ", 0)", x.press(no, 0), -1);
        }
        for (int no : NO_PARTS) {
            DUE.is("press(1, " + no + ")", x.press(1, no), -1);
        }
        x.leave(1);
        DUE.is("one is out", x.press(0, 0), 10);
        DUE.is("one is out", x.press(7, 0), 17);
        DUE.is("one is out", x.press(7, 1), 4);
    }

    private static void pays() {
        HillLeavers x = Due.with(HILL);
        DUE.is("17 by 17", x.pays(0), 1);
        DUE.is("18 by 17", x.pays(1), 2);
        DUE.is("for nothing", x.pays(2), 0);
        for (int no : new int[] {3, 5, -1, MIN, MAX}) {
            DUE.is("pays(" + no + ")", x.pays(no), -1);
        }
        x.grant(1);
        DUE.is("granted", x.pays(1), 2);
        HillLeavers none = Due.with("demand a cost 1 worth 1;demand b cost 0 worth 1;");
        DUE.is("no loss", none.pays(0), -1);
        DUE.is("no loss, no cost", none.pays(1), 0);
        DUE.is("999 by 1", Due.with("craft a needs 1 loss 1;demand a cost 999 worth 1;").pays(0), 999);
    }

    private static void weight() {
        HillLeavers x = Due.with(HILL);
        int[][] due = {{10, 3}, {41, 6}, {7, 2}, {10, 3}};
        for (int man = 0; man < 4; man++) {
            DUE.is("weight(" + man + ", 0)", x.weight(man, 0), due[man][0]);
            DUE.is("weight(" + man + ", 1)", x.weight(man, 1), due[man][1]);
        }
        x.home(3);
        x.leave(0);
        DUE.is("all in the city at first", x.weight(0, 0), 10);
        for (int no : new int[] {4, 7, -1, MIN, MAX}) {
            DUE.is("weight(" + no + ", 0)", x.weight(no, 0), -1);
        }
        for (int no : NO_PARTS) {
            DUE.is("weight(0, " + no + ")", x.weight(0, no), -1);
        }
        HillLeavers camp = Due.with(CAMP);
        DUE.is("0 of 1", camp.weight(0, 0), 0);
        DUE.is("0 of 1", camp.weight(0, 1), 1);
        StringBuilder seven = new StringBuilder("craft a needs 4 loss 99;craft b needs 7 loss 1;");
        for (int i = 0; i < 7; i++) {
            seven.append("man ").append((char) ('p' + i)).append(i < 6 ? " of a b" : " of b").append(" loaves 0 debt 0;");
        }
        HillLeavers y = Due.with(seven.toString());
        // 99 by 6 and 1 by 7: 699 by 42
        DUE.is("of seven", y.weight(0, 0), 233);
        DUE.is("of seven", y.weight(0, 1), 14);
        DUE.is("of seven", y.weight(6, 0), 1);
        DUE.is("of seven", y.weight(6, 1), 7);
        HillLeavers always = Due.with("craft a needs 2 loss 9;man p of a loaves 0 debt 0;");
        DUE.is("short ahead of all", always.weight(0, 0), 0);
        DUE.is("short ahead of all", always.weight(0, 1), 1);
        DUE.is("a whole one", lone("").weight(0, 0), 10);
        DUE.is("a whole one", lone("").weight(0, 1), 1);
    }

    private static void will() {
        HillLeavers x = Due.with(HILL);
        DUE.is("now", x.will(0), 8);
        DUE.is("behind 1", x.will(1), 0);
        for (int no : NO_AHEADS) {
            DUE.is("will(" + no + ")", x.will(no), -1);
        }
        x.leave(0);
        // ann and dan, then bob and cid follow: bob and dan go back, ann with cid stays a day more
        DUE.is("behind 1", x.will(1), 5);
        DUE.is("behind 2", x.will(2), 4);
        DUE.is("behind 3", x.will(3), 0);
        DUE.is("nothing is done", x.out(), 9);
        DUE.is("days", x.about(3), 0);
        DUE.is("seed", x.about(4), 7);
        DUE.is("acts", x.about(8), 1);
    }

    private static void lasts() {
        HillLeavers x = Due.with(HILL);
        DUE.is("hill", x.lasts(), 1);
        x.leave(0);
        DUE.is("with ann", x.lasts(), 3);
        DUE.is("nobody", Due.with(CAMP).lasts(), 0);
        DUE.is("60", lone("back days > 59;").lasts(), 60);
        DUE.is("61", lone("back days > 60;").lasts(), -1);
    }

    private static void costs() {
        HillLeavers x = Due.with(HILL);
        DUE.is("none", x.costs(0), 0);
        DUE.is("one", x.costs(1), 10);
        DUE.is("60", x.costs(60), 10);
        for (int no : NO_AHEADS) {
            DUE.is("costs(" + no + ")", x.costs(no), -1);
        }
        HillLeavers few = Due.with("craft a needs 7 loss 9;foes 100 raid 5;");
        DUE.is("nobody is out, but they are too few", few.costs(60), 60 * 14);
        few.day();
        DUE.is("from now on", few.costs(2), 28);
        HillLeavers seed = Due.with("craft a needs 1 loss 9;craft b needs 1 loss 1;foes 16 raid 100;draw 7;");
        DUE.is("foes as the seed tells", seed.costs(1), 110);
        DUE.is("foes as the seed tells", seed.costs(2), 120);
        DUE.is("nothing is lost", seed.about(5), 0);
    }

    private static void weakest() {
        HillLeavers x = Due.with(HILL);
        DUE.is("dan", x.weakest(), 3);
        x.leave(0);
        DUE.is("dan first", x.weakest(), 3);
        x.leave(1);
        DUE.is("bob of like ones", x.weakest(), 1);
        DUE.is("nobody", Due.with(CAMP).weakest(), -1);
        DUE.is("never", lone("back 0;").weakest(), -1);
        DUE.is("on day 60", lone("back days > 59;").weakest(), 0);
        DUE.is("on day 61", lone("back days > 60;").weakest(), -1);
    }

    private static void offer() {
        HillLeavers x = Due.with(HILL);
        int[] due = {1, 0, 4};
        for (int what = 0; what < 3; what++) {
            DUE.is("offer(0, " + what + ")", x.offer(0, what), due[what]);
            DUE.is("offer(59, " + what + ")", x.offer(59, what), due[what]);
        }
        for (int no : new int[] {60, -1, MIN, MAX}) {
            DUE.is("offer(" + no + ", 0)", x.offer(no, 0), -1);
        }
        for (int no : new int[] {3, -1, MIN, MAX}) {
            DUE.is("offer(0, " + no + ")", x.offer(0, no), -1);
        }
        x.grant(2);
        for (int what = 0; what < 3; what++) {
            DUE.is("not what is granted", x.offer(0, what), 0);
        }
        String demands = "demand a cost 25 worth 5;demand b cost 15 worth 3;demand c cost 10 worth 2;"
            + "demand d cost 15 worth 2;demand e cost 999 worth 99;";
        HillLeavers y = lone(demands + "back days > 3;");
        // 40 in four days: a with b; then 30: a, or b with c, for less or as much; then 20; 10
        int[][] dues = {{8, 40, 3}, {5, 25, 1}, {3, 15, 2}, {2, 10, 4}, {0, 0, 0}, {0, 0, 0}};
        for (int n = 0; n < dues.length; n++) {
            for (int what = 0; what < 3; what++) {
                DUE.is("offer(" + n + ", " + what + ")", y.offer(n, what), dues[n][what]);
            }
        }
        HillLeavers like = lone("demand a cost 10 worth 2;demand b cost 10 worth 2;back 0;");
        DUE.is("one day is left", like.offer(59, 0), 2);
        DUE.is("the least set", like.offer(59, 2), 1);
        DUE.is("two days are left", like.offer(58, 2), 3);
        HillLeavers sixty = lone("demand a cost 600 worth 2;demand b cost 601 worth 3;back 0;");
        DUE.is("till 60 days from now", sixty.offer(0, 2), 1);
        DUE.is("59 days", sixty.offer(1, 2), 0);
        HillLeavers nobody = Due.with("craft a needs 1 loss 99;demand a cost 1 worth 1;");
        DUE.is("nobody is out", nobody.offer(0, 2), 0);
        HillLeavers foe = lone("demand a cost 17 worth 1;foes 100 raid 7;back days > 0;");
        DUE.is("with foes", foe.offer(0, 2), 1);
    }

    private static void until() {
        HillLeavers x = Due.with(HILL);
        DUE.is("until(1)", x.until(1), 59);
        DUE.is("until(2)", x.until(2), -1);
        DUE.is("until(0)", x.until(0), 59);
        DUE.is("until(-5)", x.until(-5), 59);
        DUE.is("until(MIN)", x.until(MIN), 59);
        DUE.is("until(MAX)", x.until(MAX), -1);
        x.grant(2);
        DUE.is("granted", x.until(1), -1);
        HillLeavers y = lone("demand a cost 20 worth 3;back days > 4;");
        DUE.is("until(3)", y.until(3), 3);
        DUE.is("until(4)", y.until(4), -1);
        y.day();
        DUE.is("a day later", y.until(1), 2);
        y.day();
        y.day();
        DUE.is("the last day", y.until(3), 0);
        y.day();
        DUE.is("none any more", y.until(3), -1);
        HillLeavers far = lone("demand a cost 10 worth 3;back days > 50;");
        DUE.is("far ahead", far.until(3), 50);
    }

    private static void feeds() {
        HillLeavers x = lone("");
        DUE.is("a day", x.feeds(0, 1), 1);
        DUE.is("five", x.feeds(0, 5), 5);
        DUE.is("60", x.feeds(0, 60), 60);
        for (int no : NO_COUNTS) {
            DUE.is("feeds(0, " + no + ")", x.feeds(0, no), -1);
        }
        for (int no : new int[] {1, 7, -1, MIN, MAX}) {
            DUE.is("feeds(" + no + ", 1)", x.feeds(no, 1), -1);
        }
        x.home(0);
        DUE.is("not out", x.feeds(0, 1), -1);
        HillLeavers hill = Due.with(HILL);
        DUE.is("others are missing", hill.feeds(3, 1), -1);
        DUE.is("in the city, though he would follow", hill.feeds(1, 1), -1);
        HillLeavers camp = Due.with("craft a needs 0 loss 0;man p of a loaves 9 debt 0 others 1;"
            + "man q of a loaves 9 debt 0 out;");
        DUE.is("in the city, though he would follow", camp.feeds(0, 1), -1);
        HillLeavers never = lone("back 0;");
        DUE.is("he stays anyway", never.feeds(0, 60), 0);
        HillLeavers more = lone("back loaves > 3 or loaves = 0;");
        DUE.is("more is worse", more.feeds(0, 3), 3);
        DUE.is("more is worse", more.feeds(0, 4), -1);
        HillLeavers cap = Due.with("craft a needs 0 loss 0;man p of a loaves 20 debt 0 out;back loaves < 98;");
        DUE.is("99 at most", cap.feeds(0, 1), 79);
        DUE.is("99 at most", cap.feeds(0, 2), -1);
        HillLeavers gap = Due.with("craft a needs 0 loss 0;man p of a loaves 0 debt 0 out;back loaves < 98;");
        DUE.is("99 is enough", gap.feeds(0, 1), 99);
        HillLeavers follows = Due.with("craft a needs 0 loss 0;man p of a loaves 1 debt 0 others 1 out;"
            + "man q of a loaves 20 debt 0 out;");
        DUE.is("behind each, also if he follows again", follows.feeds(0, 2), 2);
        DUE.is("nothing is given", follows.man(0, 1), 1);
    }

    private static void odds() {
        HillLeavers x = Due.with(HILL);
        int[][] due = {{1, 1}, {7, 10}, {7, 10}, {7, 10}, {7, 10}};
        for (int n = 0; n <= 4; n++) {
            DUE.is("odds(" + n + ", 0)", x.odds(n, 0), due[n][0]);
            DUE.is("odds(" + n + ", 1)", x.odds(n, 1), due[n][1]);
        }
        for (int no : new int[] {5, -1, MIN, MAX}) {
            DUE.is("odds(" + no + ", 0)", x.odds(no, 0), -1);
        }
        for (int no : NO_PARTS) {
            DUE.is("odds(1, " + no + ")", x.odds(1, no), -1);
        }
        HillLeavers y = Due.with("craft a needs 1 loss 9;foes 30 raid 5;");
        DUE.is("0.7 four times", y.odds(4, 0), 2401);
        DUE.is("0.7 four times", y.odds(4, 1), 10000);
        HillLeavers most = Due.with("craft a needs 1 loss 9;foes 1 raid 5;");
        DUE.is("0.99 four times", most.odds(4, 0), 99 * 99 * 99 * 99);
        DUE.is("0.99 four times", most.odds(4, 1), 100000000);
        HillLeavers two = Due.with("craft a needs 1 loss 9;craft b needs 1 loss 9;foes 51 raid 5;");
        DUE.is("102 of 100", two.odds(1, 0), 0);
        DUE.is("102 of 100", two.odds(1, 1), 1);
        DUE.is("102 of 100, twice", two.odds(2, 0), 0);
        HillLeavers fifty = Due.with("craft a needs 1 loss 9;craft b needs 1 loss 9;foes 25 raid 5;");
        DUE.is("half", fifty.odds(3, 0), 1);
        DUE.is("half", fifty.odds(3, 1), 8);
        // on the day on which he follows, not on the one behind
        HillLeavers follow = Due.with("craft a needs 1 loss 9;craft b needs 0 loss 0;man p of a loaves 1 debt 0 others 1;"
            + "man q of b loaves 5 debt 0 out;foes 50 raid 5;back debt = 0 and loaves = 0 and days > 0;");
        DUE.is("a day", follow.odds(1, 0), 1);
        DUE.is("a day", follow.odds(1, 1), 2);
        HillLeavers none = Due.with("craft a needs 1 loss 9;");
        DUE.is("no foes", none.odds(4, 0), 1);
        DUE.is("no foes", none.odds(4, 1), 1);
    }
}
