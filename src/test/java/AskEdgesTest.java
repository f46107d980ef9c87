import java.io.IOException;

/** Sentence by sentence, at their bounds: Terms 3 and 4, promises 21 to 52. */
public final class AskEdgesTest {
    private static final String HILL = TellingTest.HILL;
    private static final String CAMP = TellingTest.CAMP;
    /** One whom bread needs, who is OUT, with a loaf. */
    private static final String LONE = "craft bread needs 1 loss 10;man p of bread loaves 1 debt 0 out;";

    private static Edges edges;

    public static void main(String[] args) throws IOException {
        edges = new Edges("AskEdgesTest");
        nothingIsDone();
        beyondTheLastDay();
        nobody();
        spread();
        spark();
        stop();
        pillarsAndIdle();
        dearestAndTwins();
        stock();
        hungry();
        returns();
        plan();
        bribe();
        ever();
        press();
        pays();
        weight();
        will();
        lasts();
        costs();
        weakest();
        offer();
        offerTies();
        until();
        feeds();
        odds();
        telling();
        untelling();
        later();
        fits();
        sure();
        ask();
        edges.close(Edges.fromTo(21, 52));
    }

    /** Such a back that a MAN who is OUT goes BACK behind so many days. */
    private static String lasting(int days) {
        return LONE + "back days > " + (days - 1) + ";";
    }

    // ---- Terms 3

    private static void askAll(HillLeavers x) {
        for (int i = -1; i <= 61; i++) {
            for (int what = -1; what <= 3; what++) {
                x.spark(what);
                x.stop(i, what);
                x.plan(i, what);
                x.bribe(i, what);
                x.press(i, what);
                x.weight(i, what);
                x.offer(i, what);
                x.odds(i, what);
                x.hands(what, i);
                x.feeds(what, i);
                x.sure(what, i);
                x.ask(what, i);
            }
            x.spread(i);
            x.hungry(i);
            x.returns(i);
            x.ever(i);
            x.pays(i);
            x.will(i);
            x.costs(i);
            x.until(i);
            x.fits(i);
        }
        x.pillars();
        x.idle();
        x.dearest();
        x.twins();
        x.stock();
        x.lasts();
        x.weakest();
        x.longest();
        x.broken();
    }

    private static void nothingIsDone() {
        edges.terms(3, "(By what is now; nothing is done.");
        String[] texts = {"", HILL, CAMP, LONE, lasting(9) + "demand d cost 9 worth 9;foes 50 raid 7;draw 3;"};
        for (String text : texts) {
            HillLeavers x = Due.with(text);
            x.leave(0);
            x.day();
            x.grant(0);
            x.undo();
            int kept = x.image(1);
            x.seen(0, true);
            x.later(5);
            x.counted(1, true);
            x.untell(0);
            String before = Edges.state(x);
            askAll(x);
            edges.is(Edges.state(x).equals(before), true);
            edges.is(x.redo(), true);
            askAll(x);
            x.undo();
            edges.is(Edges.state(x).equals(before), true);
            edges.is(x.back(1), kept);
        }
    }

    private static void beyondTheLastDay() {
        edges.terms(3, "What lies ahead goes on as told beyond the last one that can be done, too.)");
        HillLeavers x = Due.with("craft a needs 1 loss 9;craft b needs 1 loss 0;man p of b loaves 0 debt 0;"
            + "demand d cost 540 worth 1;foes 50 raid 3;back days = 60;");
        for (int day = 0; day < 999; day++) {
            x.day();
        }
        edges.none(x.day());
        x.leave(0);
        edges.is(x.will(59), 1);
        edges.is(x.will(60), 0);
        edges.is(x.lasts(), 60);
        edges.is(x.returns(0), 60);
        edges.is(x.weakest(), 0);
        edges.is(x.hungry(59), 1);
        edges.is(x.hands(1, 60), 1);
        // two are SHORT on each of the 60 days, so that a foe comes on each
        edges.is(x.costs(60), 60 * 12);
        edges.is(x.offer(0, 0), 1);
        edges.is(x.offer(15, 0), 1);
        edges.is(x.offer(16, 0), 0);
        edges.is(x.until(1), 15);
        edges.is(x.odds(4, 0), 0);
        edges.is(x.feeds(0, 59), 0);
        edges.none(x.feeds(0, 60));
        edges.is(x.bribe(59, 0), 1);
        edges.is(x.bribe(60, 0), 0);
        edges.is(x.ever(60), 1);
        x.home(0);
        edges.is(x.plan(60, 0), 60 * 12);
        edges.is(x.plan(60, 1), 1);
        edges.is(x.about(3), 999);
    }

    private static void nobody() {
        edges.promise(1, "An empty CITY.");
        HillLeavers x = new HillLeavers();
        for (int part = 0; part <= 1; part++) {
            edges.is(x.spark(part), 0);
            edges.is(x.stop(0, part), 0);
            edges.is(x.plan(1, part), 0);
            edges.is(x.plan(60, part), 0);
            edges.is(x.bribe(60, part), 0);
            edges.is(x.press(0, part), 0);
            edges.is(x.press(7, part), 0);
            edges.is(x.odds(4, part), 1);
            edges.none(x.weight(0, part));
            edges.none(x.ask(part, 0));
        }
        for (int what = 0; what < 3; what++) {
            edges.is(x.offer(0, what), 0);
            edges.is(x.offer(59, what), 0);
        }
        edges.is(x.spread(0), 0);
        edges.none(x.spread(1));
        edges.none(x.stop(1, 0));
        edges.is(x.pillars() + x.idle() + x.twins() + x.broken() + x.hungry(60) + x.ever(60) + x.will(60) + x.lasts()
            + x.costs(60), 0);
        edges.none(x.dearest());
        edges.none(x.stock());
        edges.none(x.returns(0));
        edges.none(x.weakest());
        edges.none(x.longest());
        edges.none(x.feeds(0, 1));
        edges.none(x.pays(0));
        edges.is(x.until(0), 59);
        edges.none(x.until(1));
        edges.is(x.fits(0), 1);
    }

    // ---- promises 21 to 28

    private static void spread() {
        edges.promise(21, "SPREAD (a set, as bits), as bits; NONE if one can't be.");
        for (int men = 0; men <= 7; men++) {
            HillLeavers x = Due.with(Edges.people("needs 0 loss 0", men, 0));
            edges.only(0, (1 << men) - 1, x::spread);
            for (int set = 0; set < 1 << men; set++) {
                edges.is(x.spread(set), set);
            }
        }
        HillLeavers out = Due.with(Edges.people("needs 0 loss 0", 3, 3));
        edges.only(0, 7, out::spread);
        edges.is(out.spread(0), 7);
        edges.is(out.spread(5), 7);
        edges.terms(3, "and then, again and again, all in the city FOLLOW as in (1), till nobody does");
        HillLeavers chain = Due.with(chain());
        edges.is(chain.spread(0), 0);
        edges.is(chain.spread(64), 127);
        edges.is(chain.spread(32), 32);
        edges.is(chain.spread(48), 48);
        edges.is(chain.spread(33), 63);
    }

    /** The last FOLLOWS nobody, each ahead of him one more than the one behind. */
    private static String chain() {
        StringBuilder text = new StringBuilder("craft a needs 0 loss 0;back 0;");
        for (int i = 0; i < 7; i++) {
            text.append("man ").append((char) ('p' + i)).append(" of a loaves 9 debt 0 others ").append(6 - i).append(';');
        }
        return text.toString();
    }

    private static void spark() {
        edges.promise(22, "SPARK what 0: how many, 1: which, as bits; NONE for another what.");
        HillLeavers x = Due.with(HILL);
        edges.only(0, 1, x::spark);
        HillLeavers chain = Due.with(chain());
        edges.is(chain.spark(0), 1);
        edges.is(chain.spark(1), 64);
        for (int men = 0; men <= 7; men++) {
            for (int out = 0; out <= men; out++) {
                HillLeavers alone = Due.with(Edges.people("needs 0 loss 0", men, out));
                edges.is(alone.spark(0), men - out);
                edges.is(alone.spark(1), (1 << men) - (1 << out));
            }
        }
        edges.terms(3, "the fewest who would have to leave now so that by their SPREAD all are OUT;"
            + " of like ones the least set as bits.");
        for (int told = 1; told <= 6; told++) {
            HillLeavers all = Due.with(Edges.people("needs 0 loss 0", 7, 0).replace("debt 0", "debt 0 others " + told));
            edges.is(all.spark(0), told);
            edges.is(all.spark(1), (1 << told) - 1);
            all.leave(0);
            edges.is(all.spark(0), told - 1);
            edges.is(all.spark(1), (1 << told) - 2);
        }
    }

    private static void stop() {
        edges.promise(23, "STOP (a set of CRAFTS, as bits) what 0: how many, 1: which, as bits; NONE if it can't be, "
            + "or one can't be.");
        String four = "craft a needs 1 loss 1;craft b needs 1 loss 1;craft c needs 1 loss 1;craft d needs 1 loss 1;";
        for (int crafts = 0; crafts <= 4; crafts++) {
            HillLeavers x = Due.with(four.substring(0, 23 * crafts));
            edges.only(0, (1 << crafts) - 1, set -> x.stop(set, 0));
            edges.only(0, (1 << crafts) - 1, set -> x.stop(set, 1));
            edges.only(0, 1, what -> x.stop(0, what));
        }
        // a CRAFT that needs nobody can't be SHORT, also among others
        HillLeavers never = Due.with("craft a needs 0 loss 1;craft b needs 1 loss 1;man p of a b loaves 1 debt 0;");
        edges.is(never.stop(0, 0), 0);
        edges.none(never.stop(1, 0));
        edges.none(never.stop(1, 1));
        edges.is(never.stop(2, 1), 1);
        edges.none(never.stop(3, 0));
        edges.terms(3, "the fewest in the city who would have to leave so that all of these are SHORT;"
            + " of like ones the least set as bits.");
        for (int needs = 1; needs <= 7; needs++) {
            for (int out = 0; out <= 7; out++) {
                HillLeavers x = Due.with(Edges.people("needs " + needs + " loss 1", 7, out));
                int more = Math.max(0, 8 - needs - out);
                edges.is(x.stop(1, 0), more);
                edges.is(x.stop(1, 1), (1 << out + more) - (1 << out));
            }
        }
    }

    private static void pillarsAndIdle() {
        edges.promise(24, "Whose going home alone would leave some CRAFT no longer SHORT that is now, as bits.");
        for (int needs = 0; needs <= 7; needs++) {
            for (int out = 0; out <= 7; out++) {
                HillLeavers x = Due.with(Edges.people("needs " + needs + " loss 0", 7, out));
                edges.is(x.pillars(), 7 - out == needs - 1 ? (1 << out) - 1 : 0);
            }
        }
        edges.promise(25, "MEN in the city whose leaving alone would leave no CRAFT SHORT that is not now, as bits.");
        for (int needs = 0; needs <= 7; needs++) {
            for (int out = 0; out <= 7; out++) {
                HillLeavers x = Due.with(Edges.people("needs " + needs + " loss 0", 7, out));
                edges.is(x.idle(), 7 - out == needs ? 0 : 128 - (1 << out));
            }
        }
    }

    private static void dearestAndTwins() {
        edges.promise(26, "The MAN in the city by whose leaving alone LOSS is most; of like ones the first;"
            + " NONE if none is there.");
        for (int men = 0; men <= 7; men++) {
            for (int out = 0; out <= men; out++) {
                HillLeavers x = Due.with(Edges.people("needs 0 loss 9", men, out));
                edges.is(x.dearest(), out < men ? out : -1);
            }
        }
        HillLeavers most = Due.with("craft a needs 1 loss 3;craft b needs 1 loss 4;craft c needs 1 loss 4;"
            + "man p of a loaves 0 debt 0;man q of b loaves 0 debt 0;man r of c loaves 0 debt 0;");
        edges.is(most.dearest(), 1);
        most.leave(1);
        edges.is(most.dearest(), 2);
        most.leave(2);
        edges.is(most.dearest(), 0);
        edges.promise(27, "How many twos of MEN have the same CRAFTS.");
        for (int men = 0; men <= 7; men++) {
            edges.is(Due.with(Edges.people("needs 0 loss 0", men, men / 2)).twins(), men * (men - 1) / 2);
        }
        HillLeavers order = Due.with("craft a needs 0 loss 0;craft b needs 0 loss 0;man p of a b loaves 0 debt 0;"
            + "man q of b a loaves 0 debt 0;man r of a loaves 0 debt 0;man s of b loaves 0 debt 0;");
        edges.is(order.twins(), 1);
    }

    private static void stock() {
        edges.promise(28, "How many days loaves of all who are OUT last together, if each eats one a day (cut);"
            + " NONE if nobody is OUT.");
        for (int first = 0; first <= 5; first++) {
            for (int second = 0; second <= 5; second++) {
                for (int third = 0; third <= 5; third++) {
                    HillLeavers x = Due.with("craft a needs 0 loss 0;man p of a loaves " + first
                        + " debt 0;man q of a loaves " + second
                        + " debt 0;man r of a loaves " + third + " debt 0;");
                    edges.none(x.stock());
                    x.leave(0);
                    edges.is(x.stock(), first);
                    x.leave(1);
                    edges.is(x.stock(), (first + second) / 2);
                    x.leave(2);
                    edges.is(x.stock(), (first + second + third) / 3);
                    x.home(0);
                    edges.is(x.stock(), (second + third) / 2);
                }
            }
        }
        HillLeavers most = Due.with(Edges.people("needs 0 loss 0", 7, 7));
        for (int man = 0; man < 7; man++) {
            most.give(man, 99);
        }
        edges.is(most.stock(), 99);
    }

    // ---- promises 29 to 34

    private static void hungry() {
        edges.promise(29, "Who is OUT without loaves behind n DAYS (0 .. 60), as bits; NONE for another n.");
        HillLeavers x = Due.with("craft a needs 0 loss 0;man p of a loaves 0 debt 0 out;man q of a loaves 1 debt 0 out;"
            + "man r of a loaves 0 debt 0;man s of a loaves 20 debt 0 out;back 0;");
        edges.only(0, 60, x::hungry);
        x.give(3, 40);
        int[][] due = {{0, 1}, {1, 3}, {59, 3}, {60, 11}};
        for (int[] row : due) {
            edges.is(x.hungry(row[0]), row[1]);
        }
        x.give(3, 1);
        edges.is(x.hungry(60), 3);
    }

    private static void returns() {
        edges.promise(30, "Behind how many DAYS (60 at most) one who is OUT goes BACK first; NONE if he does not, "
            + "he is not OUT, or there is none such.");
        for (int days = 1; days <= 62; days++) {
            HillLeavers x = Due.with(lasting(days));
            edges.is(x.returns(0), days <= 60 ? days : -1);
        }
        edges.none(Due.with(LONE + "back 0;").returns(0));
        HillLeavers three = Due.with(Edges.people("needs 0 loss 0", 7, 3));
        edges.only(0, 2, three::returns);
        HillLeavers first = Due.with("craft a needs 0 loss 0;man p of a loaves 9 debt 9 others 1 out;"
            + "man q of a loaves 9 debt 0 out;back debt > 0 and days > 3;");
        edges.is(first.returns(0), 4);
        edges.is(first.will(5), 3);
        edges.is(first.returns(1), -1);
    }

    private static void plan() {
        edges.promise(31, "PLAN (n 1 .. 60) what 0: what masters lose, 1: which, as bits; NONE if one can't be.");
        HillLeavers hill = Due.with(HILL);
        for (int what = 0; what <= 1; what++) {
            int asked = what;
            edges.only(1, 60, n -> hill.plan(n, asked));
        }
        for (int n : new int[] {1, 60}) {
            edges.only(0, 1, what -> hill.plan(n, what));
        }
        for (int n : new int[] {0, 61, -1}) {
            edges.only(0, -1, what -> hill.plan(n, what));
        }
        edges.terms(3, "which MEN in the city (3 at most) should leave now so that masters lose most in these (foes as the "
            + "SEED tells); of like ones the fewest, then the least set as bits.");
        for (int needs = 1; needs <= 7; needs++) {
            for (int out = 0; out <= 7; out++) {
                HillLeavers x = Due.with(Edges.people("needs " + needs + " loss 5", 7, out) + "back 0;");
                int more = Math.max(0, 8 - needs - out);
                edges.is(x.plan(3, 0), more <= 3 ? 15 : 0);
                edges.is(x.plan(3, 1), more <= 3 ? (1 << out + more) - (1 << out) : 0);
            }
        }
        HillLeavers days = Due.with(lasting(4).replace(" out", ""));
        for (int n = 1; n <= 60; n++) {
            edges.is(days.plan(n, 0), 10 * Math.min(n, 4));
            edges.is(days.plan(n, 1), 1);
        }
        // a foe comes by the SEED 200 (to 471, 598), if two are SHORT and not if one is
        String two = "craft a needs 1 loss 1;craft b needs 1 loss 9;man p of a loaves 1 debt 0;man q of b loaves 1 debt 0;"
            + "back 0;draw 200;";
        edges.is(Due.with(two + "foes 35 raid 0;").plan(1, 0), 10);
        edges.is(Due.with(two + "foes 35 raid 99;").plan(1, 0), 10);
        edges.is(Due.with(two + "foes 36 raid 99;").plan(1, 0), 109);
        edges.is(Due.with(two + "foes 36 raid 99;").plan(2, 0), 119);
        edges.is(Due.with(two + "foes 72 raid 99;").plan(1, 1), 3);
    }

    private static void bribe() {
        edges.promise(32, "BRIBE (n 1 .. 60) what 0: how many, 1: which, as bits;"
            + " NONE if one can't be. (If all go home nobody is OUT.)");
        HillLeavers hill = Due.with(HILL);
        for (int what = 0; what <= 1; what++) {
            int asked = what;
            edges.only(1, 60, n -> hill.bribe(n, asked));
        }
        for (int n : new int[] {1, 60}) {
            edges.only(0, 1, what -> hill.bribe(n, what));
        }
        for (int n : new int[] {0, 61, -1}) {
            edges.only(0, -1, what -> hill.bribe(n, what));
        }
        for (int out = 0; out <= 7; out++) {
            HillLeavers never = Due.with(Edges.people("needs 0 loss 0", 7, out) + "back 0;");
            edges.is(never.bribe(60, 0), out);
            edges.is(never.bribe(60, 1), (1 << out) - 1);
        }
        edges.terms(3, "the fewest who are OUT who would have to go home now so that nobody is OUT behind these;"
            + " of like ones the least set as bits.");
        for (int needed = 1; needed <= 6; needed++) {
            // they stay as long as so many others are OUT
            HillLeavers x = Due.with(Edges.people("needs 0 loss 0", 7, 7) + "back gone < " + needed + ";");
            edges.is(x.bribe(1, 0), 7 - needed);
            edges.is(x.bribe(1, 1), (1 << 7 - needed) - 1);
        }
        for (int n = 1; n <= 60; n++) {
            edges.is(Due.with(lasting(30)).bribe(n, 0), n < 30 ? 1 : 0);
            edges.is(Due.with(lasting(30)).bribe(n, 1), n < 30 ? 1 : 0);
        }
        // the first goes home in vain, as he FOLLOWS again
        HillLeavers again = Due.with("craft a needs 0 loss 0;man p of a loaves 9 debt 0 others 1 out;"
            + "man q of a loaves 9 debt 0 out;back gone = 0 and days > 1;");
        edges.is(again.bribe(1, 1), 3);
        edges.is(again.bribe(2, 1), 2);
    }

    private static void ever() {
        edges.promise(33, "MEN who are OUT at the end of some of the next n DAYS (1 .. 60), or now, as bits;"
            + " NONE for another n.");
        HillLeavers hill = Due.with(HILL);
        edges.only(1, 60, hill::ever);
        // OUT now alone; on each day till the 60th; from the 60th on
        HillLeavers x = Due.with("craft a needs 0 loss 0;man p of a loaves 1 debt 1 out;man q of a loaves 1 debt 0 out;"
            + "back debt;");
        edges.is(x.ever(1), 3);
        edges.is(x.ever(60), 3);
        HillLeavers chain = Due.with(chain());
        chain.leave(6);
        for (int n = 1; n <= 7; n++) {
            edges.is(chain.ever(n), 127 & ~((1 << Math.max(0, 6 - n)) - 1));
        }
        // one who FOLLOWS and goes BACK on the same day was not OUT at its end
        HillLeavers same = Due.with("craft a needs 0 loss 0;man p of a loaves 0 debt 0 others 1;man q of a loaves 9 debt 0 out;");
        edges.is(same.ever(5), 2);
    }

    private static void press() {
        edges.promise(34, "At most so many (0 .. 7) of those in the city leave (nobody follows), "
            + "so that LOSS is greatest what 0: LOSS then, 1: which, as bits; of like ones the fewest, "
            + "then the least set as bits; NONE if one can't be.");
        HillLeavers hill = Due.with(HILL);
        for (int what = 0; what <= 1; what++) {
            int asked = what;
            edges.only(0, 7, most -> hill.press(most, asked));
        }
        for (int most = 0; most <= 7; most++) {
            int asked = most;
            edges.only(0, 1, what -> hill.press(asked, what));
        }
        for (int needs = 0; needs <= 7; needs++) {
            for (int out = 0; out <= 7; out++) {
                HillLeavers x = Due.with(Edges.people("needs " + needs + " loss 5", 7, out).replace("debt 0;",
                    "debt 0 others 1;"));
                int more = Math.max(0, 8 - needs - out);
                for (int most = 0; most <= 7; most++) {
                    boolean can = needs > 0 && more <= most;
                    edges.is(x.press(most, 0), can ? 5 : 0);
                    edges.is(x.press(most, 1), can ? (1 << out + more) - (1 << out) : 0);
                }
            }
        }
    }

    // ---- promises 35 to 44

    private static void pays() {
        edges.promise(35, "How many days of LOSS, if all are OUT, are a DEMAND's cost at least (0 for nothing);"
            + " NONE if there is no LOSS and it costs something, or there is none such.");
        for (int loss : new int[] {0, 1, 2, 7, 10, 99}) {
            for (int cost = 0; cost <= 999; cost++) {
                HillLeavers x = Due.with("craft a needs 1 loss " + loss + ";man p of a loaves 1 debt 0;demand d cost "
                    + cost + " worth 1;");
                edges.is(x.pays(0), cost == 0 ? 0 : loss == 0 ? -1 : cost / loss + (cost % loss == 0 ? 0 : 1));
            }
        }
        HillLeavers five = Due.with("craft a needs 1 loss 9;demand a cost 1 worth 1;demand b cost 1 worth 1;"
            + "demand c cost 1 worth 1;demand d cost 1 worth 1;demand e cost 1 worth 1;");
        edges.only(0, 4, five::pays);
        HillLeavers hill = Due.with(HILL);
        edges.only(0, 2, hill::pays);
    }

    private static void weight() {
        edges.promise(36, "WEIGHT the upper part (0), the lower part (1), in lowest terms (0 of 1); NONE if one can't be.");
        HillLeavers hill = Due.with(HILL);
        for (int part = 0; part <= 1; part++) {
            int asked = part;
            edges.only(0, 3, man -> hill.weight(man, asked));
        }
        for (int man = 0; man < 4; man++) {
            int asked = man;
            edges.only(0, 1, part -> hill.weight(asked, part));
        }
        // whichever of so many makes it SHORT, each does in as many orders: loss by men
        for (int men = 1; men <= 7; men++) {
            for (int needs = 0; needs <= 7; needs++) {
                for (int loss : new int[] {0, 1, 2, 12, 60, 99}) {
                    HillLeavers x = Due.with(Edges.people("needs " + needs + " loss " + loss, men, men / 2));
                    int upper = needs == 0 || needs > men ? 0 : loss;
                    int common = 1;
                    for (int d = 1; d <= men; d++) {
                        common = upper % d == 0 && men % d == 0 ? d : common;
                    }
                    for (int man = 0; man < men; man++) {
                        edges.is(x.weight(man, 0), upper / common);
                        edges.is(x.weight(man, 1), upper == 0 ? 1 : men / common);
                    }
                }
            }
        }
    }

    private static void will() {
        edges.promise(37, "WILL (n 0 .. 60), as bits; NONE for another n.");
        HillLeavers hill = Due.with(HILL);
        edges.only(0, 60, hill::will);
        for (int days = 1; days <= 61; days++) {
            HillLeavers x = Due.with(lasting(days));
            edges.is(x.will(0), 1);
            edges.is(x.will(days - 1), 1);
            edges.is(x.will(days), days <= 60 ? 0 : -1);
            edges.is(x.will(60), days <= 60 ? 0 : 1);
        }
    }

    private static void lasts() {
        edges.promise(38, "LASTS (0: nobody is OUT; till 60 DAYS); NONE if somebody still is.");
        for (int days = 1; days <= 62; days++) {
            HillLeavers x = Due.with(lasting(days));
            edges.is(x.lasts(), days <= 60 ? days : -1);
            x.home(0);
            edges.is(x.lasts(), 0);
        }
        edges.none(Due.with(LONE + "back 0;").lasts());
    }

    private static void costs() {
        edges.promise(39, "What masters lose in the next n DAYS (0 .. 60), foes as the SEED tells; NONE for another n.");
        HillLeavers hill = Due.with(HILL);
        edges.only(0, 60, hill::costs);
        String foes = "craft a needs 1 loss 3;foes 40 raid 100;draw 13;";
        HillLeavers x = Due.with(foes);
        int seed = 13;
        int lost = 0;
        for (int n = 0; n <= 60; n++) {
            edges.is(x.costs(n), lost);
            seed = (seed * 137 + 71) % 1000;
            lost += seed % 100 < 40 ? 103 : 3;
        }
        x.day();
        edges.is(x.costs(0), 0);
        edges.is(x.costs(59), Due.with(foes).costs(60) - Due.with(foes).costs(1));
    }

    private static void weakest() {
        edges.promise(40, "Of all who are OUT now, the first to go BACK, as DAYS go by (60 at most); of like ones the first;"
            + " NONE if none does, or is OUT.");
        for (int days = 1; days <= 62; days++) {
            edges.is(Due.with(lasting(days)).weakest(), days <= 60 ? 0 : -1);
        }
        edges.none(Due.with(CAMP).weakest());
        edges.none(Due.with(LONE + "back 0;").weakest());
        for (int first = 0; first < 7; first++) {
            StringBuilder text = new StringBuilder("craft a needs 0 loss 0;back days > debt;");
            for (int i = 0; i < 7; i++) {
                text.append("man ").append((char) ('p' + i)).append(" of a loaves 0 debt ").append(i < first
                    ? 9 : 4).append(" out;");
            }
            HillLeavers x = Due.with(text.toString());
            edges.is(x.weakest(), first);
            x.home(first);
            edges.is(x.weakest(), first == 6 ? 0 : first + 1);
        }
        // who FOLLOWS later and goes BACK sooner is not OUT now
        HillLeavers later = Due.with("craft a needs 0 loss 0;man p of a loaves 0 debt 0 others 1;"
            + "man q of a loaves 3 debt 0 out;");
        edges.is(later.weakest(), 1);
    }

    private static void offer() {
        edges.promise(41, "OFFER (n 0 .. 59) what 0: worth, 1: cost, 2: which, as bits; NONE if one can't be.");
        HillLeavers hill = Due.with(HILL);
        for (int what = 0; what <= 2; what++) {
            int asked = what;
            edges.only(0, 59, n -> hill.offer(n, asked));
        }
        for (int n : new int[] {0, 1, 59}) {
            edges.only(0, 2, what -> hill.offer(n, what));
        }
        for (int n : new int[] {-1, 60, 61}) {
            edges.only(0, -1, what -> hill.offer(n, what));
        }
        edges.terms(3, "with no more cost together than what masters would lose from then on (foes as the SEED tells;"
            + " behind n DAYS) till nobody is OUT any more, or 60 DAYS from now");
        for (int days : new int[] {1, 2, 30, 59, 60, 61}) {
            for (int n = 0; n <= 59; n++) {
                int left = Math.max(0, 10 * (Math.min(60, days) - n));
                HillLeavers enough = Due.with(lasting(days) + "demand d cost " + left + " worth 3;");
                edges.is(enough.offer(n, 0), 3);
                edges.is(enough.offer(n, 1), left);
                edges.is(enough.offer(n, 2), 1);
                HillLeavers tooMuch = Due.with(lasting(days) + "demand d cost " + (left + 1) + " worth 3;");
                edges.is(tooMuch.offer(n, 0), 0);
                edges.is(tooMuch.offer(n, 1), 0);
                edges.is(tooMuch.offer(n, 2), 0);
            }
        }
        // what masters lose while nobody is OUT does not count, but what costs nothing can be granted then
        HillLeavers few = Due.with("craft a needs 1 loss 99;demand a cost 0 worth 2;demand b cost 1 worth 5;");
        HillLeavers once = Due.with("craft a needs 1 loss 99;craft b needs 0 loss 0;man p of b loaves 0 debt 0 out;"
            + "demand a cost 0 worth 2;demand b cost 99 worth 5;");
        for (int n = 0; n <= 59; n++) {
            edges.is(few.offer(n, 0), 2);
            edges.is(few.offer(n, 2), 1);
            edges.is(once.offer(n, 0), n == 0 ? 7 : 2);
            edges.is(once.offer(n, 2), n == 0 ? 3 : 1);
        }
        // two foes: on the day from SEED 35 (to 866) and on the one behind (to 713)
        String foes = lasting(2) + "foes 67 raid 100;draw 35;demand d cost ";
        edges.is(Due.with(foes + "220 worth 1;").offer(0, 0), 1);
        edges.is(Due.with(foes + "221 worth 1;").offer(0, 0), 0);
        edges.is(Due.with(foes + "110 worth 1;").offer(1, 0), 1);
        edges.is(Due.with(foes.replace("67", "66") + "110 worth 1;").offer(0, 1), 110);
        edges.is(Due.with(foes.replace("67", "66") + "121 worth 1;").offer(0, 1), 0);
    }

    private static void offerTies() {
        edges.terms(3, "the set of DEMANDS not granted that have most worth");
        String five = "demand a cost 1 worth 1;demand b cost 2 worth 2;demand c cost 3 worth 4;demand d cost 4 worth 8;"
            + "demand e cost 0 worth 16;";
        for (int granted = 0; granted < 32; granted++) {
            HillLeavers x = Due.with(lasting(1) + five);
            for (int demand = 0; demand < 5; demand++) {
                if ((granted >> demand & 1) == 1) {
                    x.grant(demand);
                }
            }
            edges.is(x.offer(0, 0), 31 - granted);
            edges.is(x.offer(0, 2), 31 - granted);
            edges.is(x.offer(1, 0), 16 & ~granted);
        }
        edges.terms(3, "of like ones the least cost, then the least set as bits.");
        edges.is(Due.with(lasting(1) + "demand a cost 5 worth 2;demand b cost 4 worth 2;demand c cost 6 worth 2;"
            + "demand d cost 8 worth 2;").offer(0, 2), 3);
        edges.is(Due.with(lasting(1) + "demand a cost 9 worth 2;demand b cost 8 worth 2;demand c cost 8 worth 2;").offer(0,
            2), 2);
        edges.is(Due.with(lasting(1) + "demand a cost 8 worth 2;demand b cost 4 worth 1;demand c cost 4 worth 1;").offer(0,
            2), 1);
        edges.is(Due.with(lasting(1) + "demand a cost 9 worth 0;demand b cost 0 worth 0;").offer(0, 2), 0);
        edges.is(Due.with(lasting(1) + "demand a cost 0 worth 1;demand b cost 0 worth 0;").offer(0, 2), 1);
    }

    private static void until() {
        edges.promise(42, "The last day n from now (0 .. 59) on which the OFFER has as much worth as told at least;"
            + " NONE if there is none.");
        for (int days : new int[] {1, 2, 30, 59, 60, 61}) {
            HillLeavers x = Due.with(lasting(days) + "demand d cost 10 worth 3;demand e cost 20 worth 1;");
            int last = Math.min(60, days) - 1;
            edges.is(x.until(0), 59);
            edges.is(x.until(-1), 59);
            edges.is(x.until(Edges.MIN), 59);
            edges.is(x.until(1), last);
            edges.is(x.until(3), last);
            edges.is(x.until(4), last >= 2 ? last - 2 : -1);
            edges.none(x.until(5));
            edges.none(x.until(Edges.MAX));
        }
    }

    private static void feeds() {
        edges.promise(43, "FEED (n 1 .. 60); NONE if 99 are not enough, he is not OUT, or one can't be.");
        HillLeavers x = Due.with(Edges.people("needs 0 loss 0", 7, 3));
        for (int man = 0; man < 3; man++) {
            int asked = man;
            edges.only(1, 60, n -> x.feeds(asked, n));
        }
        edges.only(0, 2, man -> x.feeds(man, 1));
        edges.only(0, 2, man -> x.feeds(man, 60));
        for (int n : new int[] {0, 61, -1}) {
            edges.only(0, -1, man -> x.feeds(man, n));
        }
        // a loaf must be left behind each DAY
        for (int n = 1; n <= 60; n++) {
            edges.is(Due.with(LONE).feeds(0, n), n);
            edges.is(Due.with(LONE + "back loaves < 39;").feeds(0, n), 38 + n);
            edges.is(Due.with(LONE + "back loaves < 40;").feeds(0, n), n < 60 ? 39 + n : -1);
        }
        edges.terms(3, "the fewest loaves to give him now (99 at most) by which he is OUT behind each of these.");
        String none = "craft a needs 0 loss 0;man p of a loaves 0 debt 0 out;";
        edges.is(Due.with(none + "back loaves < 98;").feeds(0, 1), 99);
        edges.none(Due.with(none + "back loaves < 99;").feeds(0, 1));
        edges.none(Due.with(none + "back loaves < 98;").feeds(0, 2));
        edges.is(Due.with(none + "back 0;").feeds(0, 60), 0);
        edges.none(Due.with(none + "back 1;").feeds(0, 1));
        // he has 99 at most
        edges.is(Due.with(none.replace("loaves 0", "loaves 20") + "back loaves < 98;").feeds(0, 1), 79);
        edges.none(Due.with(none.replace("loaves 0", "loaves 20") + "back loaves < 98;").feeds(0, 2));
        // also one that goes BACK by many loaves, and by few
        edges.is(Due.with(none + "back loaves % 10 < 5;").feeds(0, 4), 9);
        edges.none(Due.with(none + "back loaves % 10 < 5;").feeds(0, 6));
        edges.is(Due.with(none + "back loaves % 10 < 5;").feeds(0, 5), 10);
    }

    private static void odds() {
        edges.promise(44, "ODDS (n 0 .. 4) the upper part (0), the lower part (1), in lowest terms (0 of 1);"
            + " NONE if one can't be.");
        HillLeavers hill = Due.with(HILL);
        for (int part = 0; part <= 1; part++) {
            int asked = part;
            edges.only(0, 4, n -> hill.odds(n, asked));
        }
        for (int n = 0; n <= 4; n++) {
            int asked = n;
            edges.only(0, 1, part -> hill.odds(asked, part));
        }
        edges.terms(3, "if each comes by its odds (100 of 100 at most), whatever the SEED is, each DAY by itself.");
        String four = "craft a needs 1 loss 1;craft b needs 1 loss 1;craft c needs 1 loss 1;craft d needs 1 loss 1;";
        for (int shorts = 0; shorts <= 4; shorts++) {
            for (int foes = 0; foes <= 100; foes++) {
                HillLeavers x = Due.with(four.substring(0, 23 * shorts) + "foes " + foes + " raid 1;draw " + 9 * foes + ";");
                long upper = 1;
                long lower = 1;
                for (int n = 0; n <= 4; n++) {
                    long common = upper == 0
                        ? lower : java.math.BigInteger.valueOf(upper).gcd(java.math.BigInteger.valueOf(lower)).longValue();
                    edges.is(x.odds(n, 0), upper / common);
                    edges.is(x.odds(n, 1), lower / common);
                    upper *= Math.max(0, 100 - foes * shorts);
                    lower *= 100;
                }
            }
        }
        // by who is OUT on each DAY: nobody SHORT on the first, one on the next, two behind, one again
        HillLeavers days = Due.with("craft a needs 1 loss 1;craft b needs 1 loss 1;craft c needs 0 loss 0;"
            + "man p of a loaves 9 debt 9 others 2;man q of b loaves 9 debt 4 others 3;man r of c loaves 9 debt 9 others 1;"
            + "man s of c loaves 9 debt 9 out;foes 10 raid 1;back days > debt / 4;");
        int[] upper = {1, 1, 9, 18};
        int[] lower = {1, 1, 10, 25};
        for (int n = 0; n < 4; n++) {
            edges.is(days.odds(n, 0), upper[n]);
            edges.is(days.odds(n, 1), lower[n]);
        }
    }

    // ---- Terms 4, promises 45 to 52

    private static void telling() {
        edges.promise(45, "That a MAN was OUT, or was not: its number; NONE, doing nothing, if one can't be, or there are 30.");
        for (int men = 0; men <= 7; men++) {
            String text = Edges.people("needs 0 loss 0", men, 0);
            edges.only(0, men - 1, man -> Due.with(text).seen(man, true));
            edges.only(0, men - 1, man -> Due.with(text).seen(man, false));
            HillLeavers x = Due.with(text);
            for (int no : new int[] {-1, men, 7, 32, Edges.MIN, Edges.MAX}) {
                edges.refused(x, () -> x.seen(no, true));
                edges.refused(x, () -> x.seen(no, false));
            }
        }
        thirty(x -> x.seen(3, false));
        edges.promise(46, "That a CRAFT was SHORT, or was not: its number; NONE likewise.");
        edges.only(0, 2, craft -> Due.with(HILL).lacked(craft, true));
        edges.only(0, 2, craft -> Due.with(HILL).lacked(craft, false));
        HillLeavers hill = Due.with(HILL);
        for (int no : new int[] {-1, 3, 4, Edges.MIN, Edges.MAX}) {
            edges.refused(hill, () -> hill.lacked(no, true));
        }
        thirty(x -> x.lacked(2, false));
        edges.promise(47, "That at least so many (0 .. 7) were OUT, or were not: its number; NONE likewise.");
        edges.only(0, 7, least -> Due.with(HILL).counted(least, true));
        edges.only(0, 7, least -> new HillLeavers().counted(least, false));
        for (int no : new int[] {-1, 8, Edges.MIN, Edges.MAX}) {
            edges.refused(hill, () -> hill.counted(no, true));
        }
        thirty(x -> x.counted(4, false));
    }

    private interface Tell {
        int to(HillLeavers x);
    }

    private static void thirty(Tell tell) {
        HillLeavers x = Due.with(HILL);
        for (int i = 0; i < 30; i++) {
            edges.is(x.about(10), i);
            edges.is(tell.to(x), i);
        }
        edges.refused(x, () -> tell.to(x));
        edges.is(x.untell(7), true);
        edges.refused(x, () -> tell.to(x));
        Due.city(x, HILL);
        edges.is(tell.to(x), 0);
    }

    private static void untelling() {
        edges.promise(48, "It is UNTOLD: true; false if it is so already, or there is none such.");
        HillLeavers x = Due.with(HILL);
        edges.is(x.untell(0), false);
        for (int i = 0; i < 30; i++) {
            edges.is(x.untell(i), false);
            x.seen(0, true);
        }
        edges.is(x.fits(0), 8);
        for (int i = 29; i >= 0; i--) {
            edges.is(x.untell(i), true);
            edges.is(x.untell(i), false);
            edges.is(x.fits(0), i == 0 ? 16 : 8);
        }
        for (int no : new int[] {-1, 30, 31, Edges.MIN, Edges.MAX}) {
            edges.is(x.untell(no), false);
        }
        x.later(10);
        edges.is(x.untell(3), false);
        edges.terms(4, "As known at k that counts that was TOLD at k or before, not UNTOLD at k or before.");
        HillLeavers y = Due.with(HILL);
        y.later(5);
        y.seen(0, true);
        y.later(5);
        y.untell(0);
        y.later(5);
        for (int k = -2; k <= 20; k++) {
            edges.is(y.fits(k), k >= 5 && k < 10 ? 8 : 16);
            edges.is(y.sure(0, k), k >= 5 && k < 10 ? 1 : -2);
            edges.is(y.ask(0, k), k >= 5 && k < 10 ? 1 : 0);
        }
        edges.is(y.fits(Edges.MIN), 16);
        edges.is(y.fits(Edges.MAX), 16);
        edges.terms(4, "UNTOLD at a later one or the same");
        HillLeavers same = Due.with(HILL);
        same.later(5);
        same.seen(0, true);
        edges.is(same.fits(5), 8);
        edges.is(same.untell(0), true);
        edges.is(same.fits(4), 16);
        edges.is(same.fits(5), 16);
        edges.is(same.fits(6), 16);
        // at TIME 0, also
        HillLeavers zero = Due.with(HILL);
        zero.seen(0, true);
        edges.is(zero.fits(-1), 16);
        edges.is(zero.fits(0), 8);
        zero.untell(0);
        edges.is(zero.fits(0), 16);
        edges.is(zero.untell(0), false);
    }

    private static void later() {
        edges.promise(49, "So much later (0 .. 1000): the TIME; NONE, doing nothing, for another number, "
            + "or if it would be above 100,000.");
        edges.only(0, 1000, by -> new HillLeavers().later(by));
        HillLeavers x = new HillLeavers();
        for (int no : new int[] {-1, 1001, Edges.MIN, Edges.MAX}) {
            edges.refused(x, () -> x.later(no));
        }
        for (int i = 1; i <= 100; i++) {
            edges.is(x.later(1000), 1000 * i);
        }
        edges.refused(x, () -> x.later(1));
        edges.refused(x, () -> x.later(1000));
        edges.is(x.later(0), 100000);
        HillLeavers y = new HillLeavers();
        for (int i = 0; i < 99; i++) {
            y.later(1000);
        }
        y.later(1);
        edges.refused(y, () -> y.later(1000));
        edges.is(y.later(999), 100000);
    }

    private static void fits() {
        edges.promise(50, "FIT: how many.");
        for (int men = 0; men <= 7; men++) {
            String text = Edges.people("needs 2 loss 0", men, 0);
            HillLeavers x = Due.with(text);
            edges.is(x.fits(0), 1 << men);
            int sum = 0;
            for (int least = 7; least >= 0; least--) {
                sum += least <= men ? choose(men, least) : 0;
                HillLeavers least1 = Due.with(text);
                least1.counted(least, true);
                edges.is(least1.fits(0), sum);
                HillLeavers least0 = Due.with(text);
                least0.counted(least, false);
                edges.is(least0.fits(0), (1 << men) - sum);
            }
            HillLeavers lacked = Due.with(text);
            lacked.lacked(0, true);
            edges.is(lacked.fits(0), men >= 2 ? 1 + men : 1 << men);
            lacked.lacked(0, false);
            edges.is(lacked.fits(0), 0);
        }
    }

    private static int choose(int of, int some) {
        return some == 0 || some == of ? 1 : choose(of - 1, some - 1) + choose(of - 1, some);
    }

    private static void sure() {
        edges.promise(51, "SURE: 1, 0; -2 if he is OUT in some alone; NONE if none FITS, or there is no such MAN.");
        for (int men = 0; men <= 7; men++) {
            HillLeavers x = Due.with(Edges.people("needs 0 loss 0", men, 0));
            edges.only(0, men - 1, man -> x.sure(man, 0));
            for (int man = 0; man < men; man++) {
                edges.is(x.sure(man, 0), -2);
                x.seen(man, man % 2 == 0);
                edges.is(x.sure(man, 0), man % 2 == 0 ? 1 : 0);
                edges.is(x.sure(man, -1), -2);
            }
            x.counted(0, false);
            edges.only(0, -1, man -> x.sure(man, 0));
        }
    }

    private static void ask() {
        edges.promise(52, "ASK what 0: the MAN, 1: how many are left at the most; NONE if none FITS, there are no MEN, "
            + "or for another what.");
        for (int men = 0; men <= 7; men++) {
            HillLeavers x = Due.with(Edges.people("needs 0 loss 0", men, 0));
            if (men == 0) {
                edges.only(0, -1, what -> x.ask(what, 0));
            } else {
                edges.only(0, 1, what -> x.ask(what, 0));
            }
            for (int man = 0; man < men; man++) {
                edges.is(x.ask(0, 0), man);
                edges.is(x.ask(1, 0), 1 << men - man - 1);
                x.seen(man, false);
            }
            // one is left, whatever is asked
            edges.is(x.ask(0, 0), men == 0 ? -1 : 0);
            edges.is(x.ask(1, 0), men == 0 ? -1 : 1);
            x.counted(0, false);
            edges.only(0, -1, what -> x.ask(what, 0));
        }
        edges.terms(4, "the MAN of whom to know would leave the fewest of these at the most; of like ones the first.");
        // two of three were OUT at least, q was: p, r or both
        HillLeavers x = Due.with(Edges.people("needs 0 loss 0", 3, 0));
        x.counted(2, true);
        edges.is(x.fits(0), 4);
        edges.is(x.ask(0, 0), 0);
        edges.is(x.ask(1, 0), 3);
        x.seen(1, true);
        edges.is(x.ask(0, 0), 0);
        edges.is(x.ask(1, 0), 2);
        x.seen(0, true);
        edges.is(x.ask(0, 0), 2);
        edges.is(x.ask(1, 0), 1);
        // not the first, but one of whom it is as likely as not
        HillLeavers y = Due.with("craft a needs 1 loss 0;craft b needs 1 loss 0;man p of a loaves 0 debt 0;"
            + "man q of a b loaves 0 debt 0;man r of b loaves 0 debt 0;");
        y.lacked(0, false);
        y.lacked(1, false);
        // {}, p, q, r, p with r: q is in one of five, p and r in two
        edges.is(y.fits(0), 5);
        edges.is(y.ask(0, 0), 0);
        edges.is(y.ask(1, 0), 3);
        y.seen(0, false);
        edges.is(y.fits(0), 3);
        edges.is(y.ask(0, 0), 1);
        edges.is(y.ask(1, 0), 2);
    }
}
