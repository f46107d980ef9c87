import java.io.IOException;
import java.lang.reflect.Method;
import java.lang.reflect.Modifier;
import java.nio.file.Files;
import java.nio.file.Path;
import java.util.Set;
import java.util.TreeSet;
import java.util.regex.Matcher;
import java.util.regex.Pattern;

/** The calls that README.md shows answer as it says there, in its order, and its table names each call of the face once. */
public final class ReadmeTest {
    private static final Due DUE = new Due("ReadmeTest");
    private static final Pattern CALL = Pattern.compile("(?m)^x\\.(\\w+)\\(([^)]*)\\); +// (-?\\d+|true|false): ");
    private static final int SHOWN = 35;

    public static void main(String[] args) throws IOException, ReflectiveOperationException {
        String readme = Files.readString(Path.of("README.md"));
        shown(readme);
        table(readme);
        DUE.close();
    }

    private static String between(String text, String from, String to) {
        int first = text.indexOf(from);
        int last = text.indexOf(to, first + from.length());
        DUE.is("README.md has " + from, first >= 0 && last >= 0, true);
        return first < 0 || last < 0 ? "" : text.substring(first + from.length(), last);
    }

    private static Method named(String name) throws NoSuchMethodException {
        for (Method method : HillLeavers.class.getMethods()) {
            if (method.getName().equals(name) && method.getDeclaringClass() == HillLeavers.class) {
                return method;
            }
        }
        throw new NoSuchMethodException(name);
    }

    private static void shown(String readme) throws ReflectiveOperationException {
        HillLeavers x = new HillLeavers();
        DUE.is("the CITY that is shown", Due.city(x, between(readme, "```text\n", "```")), 3);
        Matcher call = CALL.matcher(readme);
        int shown = 0;
        while (call.find()) {
            Method method = named(call.group(1));
            Class<?>[] types = method.getParameterTypes();
            String[] told = call.group(2).isEmpty() ? new String[0] : call.group(2).split(", ");
            Object[] arguments = new Object[told.length];
            for (int i = 0; i < told.length; i++) {
                arguments[i] = types[i] == boolean.class ? (Object) Boolean.valueOf(told[i]) : Integer.valueOf(told[i]);
            }
            String answer = String.valueOf(method.invoke(x, arguments));
            DUE.is(call.group() + " but answered " + answer, answer.equals(call.group(3)), true);
            shown++;
        }
        DUE.is("calls that are shown", shown, SHOWN);
        DUE.is("lines that show a call", (readme + " ").split("\nx\\.").length - 1, SHOWN);
    }

    private static void table(String readme) {
        Set<String> face = new TreeSet<>();
        for (Method method : HillLeavers.class.getDeclaredMethods()) {
            if (Modifier.isPublic(method.getModifiers())) {
                face.add(method.getName());
            }
        }
        Matcher name = Pattern.compile("`(\\w+)`").matcher(between(readme, "| --- | --- |", "An object answers"));
        while (name.find()) {
            DUE.is("the table's " + name.group(1) + " is a call, named once", face.remove(name.group(1)), true);
        }
        DUE.is("the table misses " + face, face.size(), 0);
    }
}
