/** Promises 45 to 52: what is SEEN of a day long ago, and who had it been. */
public final class SeenTest {
    private static final Due DUE = new Due("SeenTest");
    private static final String HILL = TellingTest.HILL;
    private static final int MIN = Integer.MIN_VALUE;
    private static final int MAX = Integer.MAX_VALUE;

    public static void main(String[] args) {
        telling();
        wrong();
        thirty();
        times();
        untold();
        sure();
        ask();
        DUE.close();
    }

    private static void telling() {
        HillLeavers x = Due.with(HILL);
        DUE.is("all fit", x.fits(0), 16);
        DUE.is("ann was out", x.seen(0, true), 0);
        DUE.is("fits", x.fits(0), 8);
        DUE.is("wall was not short", x.lacked(1, false), 1);
        // of bob and cid not both: three of four, with dan or without
        DUE.is("fits", x.fits(0), 6);
        DUE.is("two at least were out", x.counted(2, true), 2);
        DUE.is("fits", x.fits(0), 5);
        DUE.is("three were not", x.counted(3, false), 3);
        DUE.is("fits", x.fits(0), 3);
        DUE.is("bread was short", x.lacked(0, true), 4);
        // ann with bob or with dan; with cid alone two bake
        DUE.is("fits", x.fits(0), 2);
        DUE.is("dan was not out", x.seen(3, false), 5);
        DUE.is("fits", x.fits(0), 1);
        DUE.is("bob was not out", x.seen(1, false), 6);
        DUE.is("none fits", x.fits(0), 0);
        DUE.is("seen", x.about(10), 7);
        DUE.is("none is an act", x.about(8), 0);
        HillLeavers y = Due.with(HILL);
        y.lacked(2, true);
        DUE.is("hay is never short", y.fits(0), 0);
        HillLeavers z = Due.with(HILL);
        z.counted(0, true);
        DUE.is("none at least", z.fits(0), 16);
        z.counted(4, true);
        DUE.is("all", z.fits(0), 1);
        z.counted(7, true);
        DUE.is("more than there are", z.fits(0), 0);
        HillLeavers w = Due.with(HILL);
        w.counted(0, false);
        DUE.is("less than none", w.fits(0), 0);
        HillLeavers now = Due.with(HILL);
        now.leave(0);
        DUE.is("who is out now does not count", now.fits(0), 16);
    }

    private static void wrong() {
        HillLeavers x = Due.with(HILL);
        for (int no : new int[] {4, 7, -1, MIN, MAX}) {
            DUE.is("seen(" + no + ")", x.seen(no, true), -1);
            DUE.is("sure(" + no + ")", x.sure(no, 0), -1);
        }
        for (int no : new int[] {3, 4, -1, MIN, MAX}) {
            DUE.is("lacked(" + no + ")", x.lacked(no, true), -1);
        }
        for (int no : new int[] {8, -1, MIN, MAX}) {
            DUE.is("counted(" + no + ")", x.counted(no, true), -1);
        }
        for (int no : new int[] {0, 1, -1, MIN, MAX}) {
            DUE.is("untell(" + no + ")", x.untell(no), false);
        }
        for (int no : new int[] {2, -1, MIN, MAX}) {
            DUE.is("ask(" + no + ")", x.ask(no, 0), -1);
        }
        for (int no : new int[] {1001, -1, MIN, MAX}) {
            DUE.is("later(" + no + ")", x.later(no), -1);
        }
        DUE.is("seen", x.about(10), 0);
        DUE.is("time", x.about(11), 0);
        DUE.is("number", x.counted(0, true), 0);
    }

    private static void thirty() {
        HillLeavers x = Due.with(HILL);
        for (int i = 0; i < 30; i++) {
            int number = i % 3 == 0 ? x.seen(0, true) : i % 3 == 1 ? x.lacked(0, true) : x.counted(1, true);
            DUE.is("number " + i, number, i);
        }
        DUE.is("seen", x.seen(0, true), -1);
        DUE.is("lacked", x.lacked(0, true), -1);
        DUE.is("counted", x.counted(0, true), -1);
        DUE.is("how many", x.about(10), 30);
        DUE.is("untell", x.untell(29), true);
        DUE.is("still 30", x.about(10), 30);
        DUE.is("seen", x.seen(0, true), -1);
        DUE.is("untell", x.untell(30), false);
        HillLeavers y = Due.with(HILL);
        for (int i = 0; i < 29; i++) {
            y.seen(0, true);
        }
        DUE.is("all the same", y.fits(0), 8);
        y.seen(1, true);
        DUE.is("the thirtieth counts", y.fits(0), 4);
        Due.city(x, HILL);
        DUE.is("new city", x.about(10), 0);
        DUE.is("untell", x.untell(0), false);
        DUE.is("number", x.seen(0, true), 0);
        DUE.is("untell", x.untell(0), true);
    }

    private static void times() {
        HillLeavers x = new HillLeavers();
        DUE.is("later(0)", x.later(0), 0);
        DUE.is("later(1)", x.later(1), 1);
        for (int i = 1; i < 100; i++) {
            DUE.is("later(1000)", x.later(1000), 1000 * i + 1);
        }
        DUE.is("above", x.later(1000), -1);
        DUE.is("time", x.about(11), 99001);
        DUE.is("to 100000", x.later(999), 100000);
        DUE.is("above", x.later(1), -1);
        DUE.is("the same", x.later(0), 100000);
        DUE.is("city", Due.city(x, HILL), 4);
        DUE.is("the time stays", x.about(11), 100000);
        x.seen(0, true);
        DUE.is("not known ahead", x.fits(99999), 16);
        DUE.is("known", x.fits(100000), 8);
    }

    private static void untold() {
        HillLeavers x = Due.with(HILL);
        x.later(5);
        x.seen(0, true);
        x.later(5);
        x.seen(1, true);
        x.later(5);
        DUE.is("untell", x.untell(0), true);
        DUE.is("untell again", x.untell(0), false);
        x.later(5);
        DUE.is("untell", x.untell(1), true);
        int[][] due = {{-1, 16}, {0, 16}, {4, 16}, {5, 8}, {9, 8}, {10, 4}, {14, 4}, {15, 8}, {19, 8}, {20, 16}, {99, 16},
            {MIN, 16}, {MAX, 16}};
        for (int[] row : due) {
            DUE.is("fits(" + row[0] + ")", x.fits(row[0]), row[1]);
        }
        DUE.is("sure then", x.sure(0, 14), 1);
        DUE.is("not sure now", x.sure(0, 15), -2);
        // told and untold at the same time: it never counts
        x.seen(2, false);
        x.untell(2);
        DUE.is("fits", x.fits(20), 16);
        x.seen(2, false);
        DUE.is("told once more", x.fits(20), 8);
    }

    private static void sure() {
        HillLeavers x = Due.with(HILL);
        DUE.is("in some", x.sure(0, 0), -2);
        x.seen(0, true);
        x.seen(1, false);
        DUE.is("in all", x.sure(0, 0), 1);
        DUE.is("in none", x.sure(1, 0), 0);
        DUE.is("in some", x.sure(2, 0), -2);
        DUE.is("as known ahead", x.sure(0, -1), -2);
        x.lacked(1, true);
        DUE.is("none fits", x.sure(0, 0), -1);
        HillLeavers y = Due.with(HILL);
        y.lacked(1, true);
        DUE.is("by the craft", y.sure(1, 0), 1);
        DUE.is("by the craft", y.sure(2, 0), 1);
        DUE.is("by the craft", y.sure(0, 0), -2);
    }

    private static void ask() {
        HillLeavers x = Due.with(HILL);
        DUE.is("first", x.ask(0, 0), 0);
        DUE.is("half", x.ask(1, 0), 8);
        x.seen(0, true);
        DUE.is("not one who is known", x.ask(0, 0), 1);
        DUE.is("half", x.ask(1, 0), 4);
        x.counted(2, false);
        DUE.is("one fits", x.fits(0), 1);
        DUE.is("first", x.ask(0, 0), 0);
        DUE.is("one is left", x.ask(1, 0), 1);
        x.counted(2, true);
        DUE.is("none fits", x.ask(0, 0), -1);
        DUE.is("none fits", x.ask(1, 0), -1);
        DUE.is("as known ahead", x.ask(1, -1), 8);
        HillLeavers none = new HillLeavers();
        DUE.is("one fits", none.fits(0), 1);
        DUE.is("no men", none.ask(0, 0), -1);
        DUE.is("no men", none.ask(1, 0), -1);
        // bob or cid, or both, stayed in: {}, {bob}, {cid}, each with ann and dan as may be, less than two out
        HillLeavers y = Due.with(HILL);
        y.counted(1, true);
        y.seen(3, false);
        y.seen(2, false);
        // ann, bob, or both
        DUE.is("three fit", y.fits(0), 3);
        DUE.is("ann", y.ask(0, 0), 0);
        DUE.is("two are left", y.ask(1, 0), 2);
        y.seen(0, true);
        DUE.is("bob", y.ask(0, 0), 1);
        DUE.is("one is left", y.ask(1, 0), 1);
    }
}
