import java.lang.management.ManagementFactory;
import java.lang.reflect.Method;
import java.lang.reflect.Modifier;
import java.util.Random;

/** No call throws, whatever it is given; and calls make nothing, so that 512 of them fit into one room. */
public final class WildTest {
    private static final Due DUE = new Due("WildTest");
    private static final int[] WILD = {Integer.MIN_VALUE, Integer.MIN_VALUE + 1, -1000000, -129, -128, -8, -2, -1, 0, 1, 2, 3, 4,
        5, 6, 7, 8, 15, 16, 29, 30, 31, 32, 33, 40, 41, 59, 60, 61, 63, 64, 99, 100, 127, 128, 255, 256, 999, 1000, 1001, 1600,
        1601, 100000, 100001, 1 << 30, Integer.MAX_VALUE - 1, Integer.MAX_VALUE};
    /** Seven MEN, four CRAFTS, five DEMANDS, and a formula of 30 units with nots. */
    private static final String FULL = "craft a needs 2 loss 90;craft b needs 3 loss 80;craft c needs 1 loss 70;"
        + "craft d needs 7 loss 60;man p of a b c d loaves 20 debt 9;man q of a b loaves 20 debt 9 others 1 out;"
        + "man r of b c loaves 20 debt 9 others 2 out;man s of c d loaves 20 debt 9 others 3 out;"
        + "man t of a c loaves 20 debt 9 others 4 out;man u of b d loaves 20 debt 9 others 5 out;"
        + "man v of d loaves 20 debt 9 others 6 out;demand k cost 100 worth 9;demand l cost 200 worth 9;"
        + "demand m cost 300 worth 9;demand n cost 400 worth 9;demand o cost 500 worth 9;foes 100 raid 999;draw 1;"
        + "back days > 50 and not not not not loaves * 3 + debt - 2 > 9 and not not short = 9 or not not not gone < 9"
        + " or gone + gone + gone + gone + gone + gone + gone + gone + gone + gone + gone + gone + gone + gone"
        + " + gone + gone = 120;";

    public static void main(String[] args) throws ReflectiveOperationException {
        HillLeavers[] all = {new HillLeavers(), Due.with(TellingTest.HILL), Due.with(TellingTest.CAMP), Due.with(FULL)};
        for (HillLeavers x : all) {
            wild(x);
        }
        runs();
        room();
        DUE.close();
    }

    private static void call(Object of, Method method, Object... arguments) {
        try {
            method.invoke(of, arguments);
            DUE.is(method.getName(), 0, 0);
        } catch (ReflectiveOperationException e) {
            DUE.fails(method.getName() + java.util.Arrays.toString(arguments) + " threw " + e.getCause());
        }
    }

    private static void wild(HillLeavers x) {
        for (Method method : HillLeavers.class.getDeclaredMethods()) {
            Class<?>[] types = method.getParameterTypes();
            if (!Modifier.isPublic(method.getModifiers())) {
                continue;
            }
            for (int first : WILD) {
                if (types.length == 0) {
                    call(x, method);
                    break;
                } else if (types.length == 1) {
                    call(x, method, first);
                } else if (types.length == 5) {
                    call(x, method, first, first, first, first, first);
                } else if (types[1] == boolean.class) {
                    call(x, method, first, true);
                    call(x, method, first, false);
                } else {
                    for (int second : WILD) {
                        call(x, method, first, second);
                    }
                }
            }
        }
    }

    private static void runs() {
        Random random = new Random(5);
        Method[] methods = HillLeavers.class.getDeclaredMethods();
        java.util.Arrays.sort(methods, java.util.Comparator.comparing(Method::getName));
        for (int run = 0; run < 60; run++) {
            HillLeavers x = Due.with(run % 3 == 0 ? FULL : run % 3 == 1 ? TellingTest.HILL : TellingTest.CAMP);
            for (int i = 0; i < 2000; i++) {
                Method method = methods[random.nextInt(methods.length)];
                if (!Modifier.isPublic(method.getModifiers()) || method.getName().equals("city") && random.nextInt(30) > 0) {
                    continue;
                }
                Object[] arguments = new Object[method.getParameterCount()];
                for (int a = 0; a < arguments.length; a++) {
                    arguments[a] = method.getParameterTypes()[a] == boolean.class ? (Object) random.nextBoolean()
                        : random.nextInt(6) == 0 ? WILD[random.nextInt(WILD.length)] : random.nextInt(9);
                }
                call(x, method, arguments);
            }
        }
    }

    private static long allocated() {
        return ((com.sun.management.ThreadMXBean) ManagementFactory.getThreadMXBean())
            .getThreadAllocatedBytes(Thread.currentThread().getId());
    }

    private static int dearest(HillLeavers x, int i) {
        return x.plan(60, 0) + x.bribe(60, 1) + x.feeds(i % 7, 60) + x.until(99) + x.offer(30, 1) + x.weight(i % 7, 0)
            + x.odds(4, 0) + x.spark(0) + x.stop(7, 1) + x.ask(0, 9) + x.day() + x.seen(i % 7, true) + x.fits(0)
            + x.image(i % 3) + x.ever(60) + x.returns(2) + x.press(5, 0) + (x.undo() ? 1 : 0) + (x.redo() ? 1 : 0);
    }

    private static void room() {
        long empty = allocated();
        long meter = allocated() - empty;
        HillLeavers x = new HillLeavers();
        long made = allocated() - empty - meter;
        DUE.is("a new object is small", made < 100000, true);
        Due.city(x, FULL);
        dearest(x, 0);
        long before = allocated();
        for (int i = 0; i < 40; i++) {
            dearest(x, i);
        }
        long calls = allocated() - before - meter;
        DUE.is("bytes that 760 calls make, above a thousand", Math.max(0, calls - 1000), 0);
        String text = FULL + " ".repeat(20);
        before = allocated();
        for (int i = 0; i < 20; i++) {
            Due.feed(x, text);
            x.city();
        }
        calls = allocated() - before - meter;
        DUE.is("bytes that reading twenty texts makes, above a thousand", Math.max(0, calls - 1000), 0);
        DUE.is("men", x.about(0), 7);
    }
}
