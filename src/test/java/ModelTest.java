import java.lang.reflect.InvocationTargetException;
import java.lang.reflect.Method;
import java.util.ArrayList;
import java.util.Comparator;
import java.util.List;
import java.util.Random;

/** Runs of calls, drawn from told numbers, whose answers are compared with those of the model, call by call. */
public final class ModelTest {
    private static final Due DUE = new Due("ModelTest");
    private static final int RUNS = 400;
    private static final int TEXTS = 20000;

    private final List<Method> calls = new ArrayList<>();
    private final Random random;
    private final HillLeavers x = new HillLeavers();
    private final Model model = new Model();

    private ModelTest(long seed) {
        random = new Random(seed);
        for (Method method : HillLeavers.class.getDeclaredMethods()) {
            if (java.lang.reflect.Modifier.isPublic(method.getModifiers()) && !method.getName().equals("feed")) {
                calls.add(method);
            }
        }
        calls.sort(Comparator.comparing(Method::getName));
    }

    public static void main(String[] args) throws ReflectiveOperationException {
        int runs = args.length > 0 ? Integer.parseInt(args[0]) : RUNS;
        int first = args.length > 1 ? Integer.parseInt(args[1]) : 0;
        for (int seed = first; seed < first + runs; seed++) {
            new ModelTest(seed).run(seed);
        }
        new ModelTest(-1).texts();
        DUE.close();
    }

    private static int answer(Object of, Method method, Object[] arguments) throws ReflectiveOperationException {
        try {
            Object answer = method.invoke(of, arguments);
            return answer instanceof Boolean yes ? (yes ? 1 : 0) : (Integer) answer;
        } catch (InvocationTargetException e) {
            e.getCause().printStackTrace(System.out);
            return -99999;
        }
    }

    private void compare(String where, Method method, Object... arguments) throws ReflectiveOperationException {
        Method other = Model.class.getDeclaredMethod(method.getName(), method.getParameterTypes());
        DUE.is(where + " " + method.getName() + java.util.Arrays.toString(arguments), answer(x, method, arguments),
            answer(model, other, arguments));
    }

    private int four(String text, int at) {
        int four = 0;
        for (int i = at; i < at + 4; i++) {
            four = four * 256 + (i < text.length() ? text.charAt(i) & 255 : ' ');
        }
        return four;
    }

    private void tell(String where, String text) {
        for (int at = 0; at < text.length(); at += 20) {
            int[] fours = new int[5];
            for (int i = 0; i < 5; i++) {
                fours[i] = four(text, at + 4 * i);
            }
            DUE.is(where + " feed", x.feed(fours[0], fours[1], fours[2], fours[3], fours[4]),
                model.feed(fours[0], fours[1], fours[2], fours[3], fours[4]));
        }
        DUE.is(where + " end", x.end(text.length()), model.end(text.length()));
        DUE.is(where + " city of " + text, x.city(), model.city());
        for (int what = -1; what < 3; what++) {
            DUE.is(where + " fault(" + what + ") of " + text, x.fault(what), model.fault(what));
        }
    }

    private void texts() {
        Cities cities = new Cities(new Random(77));
        for (int i = 0; i < TEXTS; i++) {
            tell("text " + i, cities.text());
            DUE.is("units", x.about(13), model.about(13));
        }
    }

    private void run(int seed) throws ReflectiveOperationException {
        Cities cities = new Cities(random);
        for (int i = 0; i < 512; i++) {
            String where = "run " + seed + " call " + i;
            if (i == 0 || random.nextInt(120) == 0) {
                x.end(0);
                model.end(0);
                tell(where, cities.text());
                everything(where);
            } else {
                Method method = calls.get(random.nextInt(calls.size()));
                if (random.nextInt(5) < 2) {
                    method = act();
                }
                Class<?>[] types = method.getParameterTypes();
                Object[] arguments = new Object[types.length];
                for (int a = 0; a < types.length; a++) {
                    arguments[a] = types[a] == boolean.class ? (Object) random.nextBoolean() : argument(method.getName(), a);
                }
                compare(where, method, arguments);
            }
        }
        everything("run " + seed + " at its end");
    }

    private Method act() {
        String[] acts = {"leave", "leave", "give", "grant", "day", "day", "home", "undo", "redo", "seen", "later"};
        String name = acts[random.nextInt(acts.length)];
        return calls.stream().filter(method -> method.getName().equals(name)).findFirst().orElseThrow();
    }

    /** Mostly one that can be. */
    private int argument(String name, int place) {
        if (random.nextInt(40) == 0) {
            return new int[] {Integer.MIN_VALUE, Integer.MAX_VALUE, -1, 61, 60, 128, 1000, -2}[random.nextInt(8)];
        }
        switch (name) {
            case "plan": case "bribe": case "hungry": case "ever": case "will": case "costs": case "offer":
                return place == 0 ? random.nextInt(random.nextBoolean() ? 62 : 8) : random.nextInt(3);
            case "hands": case "feeds":
                return place == 1 ? random.nextInt(random.nextBoolean() ? 62 : 8) : random.nextInt(7);
            case "spread": return random.nextInt(1 << Math.min(7, model.men() + (random.nextInt(8) == 0 ? 1 : 0)));
            case "stop": return place == 0 ? random.nextInt(16) : random.nextInt(2);
            case "give": return place == 0 ? random.nextInt(7) : random.nextInt(random.nextInt(3) == 0 ? 101 : 4);
            case "until": return random.nextInt(random.nextBoolean() ? 10 : 300) - 1;
            case "later": return random.nextInt(random.nextInt(4) == 0 ? 1002 : 4);
            case "fits": return random.nextInt(model.time + 3) - 1;
            case "sure": case "ask": return place == 1 ? random.nextInt(model.time + 3) - 1 : random.nextInt(place == 0 ? 7 : 2);
            case "untell": return random.nextInt(Math.max(1, model.sights.size() + 1));
            case "about": return random.nextInt(15);
            case "image": case "back": return random.nextInt(4);
            case "end": return random.nextInt(3);
            case "lacked": return random.nextInt(5);
            default: return random.nextInt(9) - (random.nextInt(20) == 0 ? 1 : 0);
        }
    }

    private void everything(String where) throws ReflectiveOperationException {
        for (Method method : calls) {
            Class<?>[] types = method.getParameterTypes();
            boolean asks = !List.of("city", "day", "undo", "redo", "leave", "home", "give", "grant", "seen", "lacked", "counted",
                "untell", "later", "image", "back", "end", "until").contains(method.getName());
            if (!asks) {
                continue;
            }
            if (types.length == 0) {
                compare(where, method);
            }
            for (int first = -1; first < 15 && types.length > 0; first++) {
                for (int second = -1; second < (types.length < 2 ? 0 : 8); second++) {
                    compare(where, method, types.length == 1 ? new Object[] {first} : new Object[] {first, second});
                }
            }
        }
    }
}
