import java.io.IOException;
import java.lang.reflect.Field;
import java.lang.reflect.Method;
import java.lang.reflect.Modifier;
import java.nio.file.Files;
import java.nio.file.Path;
import java.util.ArrayList;
import java.util.Arrays;
import java.util.List;
import java.util.Set;
import java.util.TreeSet;
import java.util.regex.Matcher;
import java.util.regex.Pattern;

/** The face is that of the document, and the source keeps to LANGUAGE.md as far as a look at it can tell. */
public final class LanguageTest {
    private static final Due DUE = new Due("LanguageTest");
    private static final Path SOURCE = Path.of("src/main/java/HillLeavers.java");
    private static final Path DOCUMENT = Path.of("../shared/DOC.md");
    private static final String[] OUTSIDE = {"\\bimport\\b", "\\bpackage\\b", "\\bthrows?\\b", "\\btry\\b", "\\bcatch\\b",
        "\\bfinally\\b", "->", "::", "\\bsynchronized\\b", "\\bassert\\b", "\\binstanceof\\b", "Exact\\(", "\\bSystem\\.(?!arraycopy)",
        "\\bdouble\\b", "\\bfloat\\b", "\\bvar\\b", "\\brecord\\b", "\\bprotected\\b", "\\btoString\\b", "\\bequals\\b",
        "\\bhashCode\\b", "\\bObject\\b", "\\bRandom\\b", "\\bThread\\b", "\\bwhile *\\( *true", "for *\\(;;\\)", "\\?\\?",
        "\" *\\+", "\\+ *\"", "[^\\x00-\\x7f]"};

    public static void main(String[] args) throws IOException {
        face();
        for (Class<?> inner : HillLeavers.class.getDeclaredClasses()) {
            DUE.is(inner + " is static", Modifier.isStatic(inner.getModifiers()), true);
            DUE.is(inner + " is private", Modifier.isPrivate(inner.getModifiers()), true);
        }
        sizes();
        source();
        DUE.close();
    }

    private static String shape(Method method) {
        StringBuilder shape = new StringBuilder(method.getReturnType() + " " + method.getName());
        for (Class<?> type : method.getParameterTypes()) {
            shape.append(' ').append(type);
        }
        return shape.toString();
    }

    private static Set<String> told() throws IOException {
        Set<String> told = new TreeSet<>();
        Matcher line = Pattern.compile("    public (int|boolean) ([a-z]+)\\(([^)]*)\\);").matcher(Files.readString(DOCUMENT));
        while (line.find()) {
            told.add(line.group(1) + " " + line.group(2)
                + line.group(3).replaceAll("(int|boolean) [a-z]+,? ?", " $1"));
        }
        return told;
    }

    private static void face() throws IOException {
        Set<String> told = told();
        DUE.is("methods told", told.size(), 54);
        Set<String> found = new TreeSet<>();
        Set<String> names = new TreeSet<>();
        for (Method method : HillLeavers.class.getDeclaredMethods()) {
            if (Modifier.isPublic(method.getModifiers())) {
                found.add(shape(method));
                names.add(method.getName());
                DUE.is(method + " is not static", Modifier.isStatic(method.getModifiers()), false);
            } else {
                DUE.is(method + " is private", Modifier.isPrivate(method.getModifiers()), true);
            }
        }
        DUE.is("the face is " + found + ", told is " + told, found.equals(told), true);
        for (Class<?> type : classes()) {
            for (Method method : type.getDeclaredMethods()) {
                boolean open = type == HillLeavers.class && Modifier.isPublic(method.getModifiers());
                DUE.is(method + " has a public one's name", !open && names.contains(method.getName()), false);
                DUE.is(method + " has too many parameters", method.getParameterCount() > 7, false);
            }
        }
        for (Field field : HillLeavers.class.getDeclaredFields()) {
            boolean none = field.getName().equals("NONE");
            DUE.is(field + " is seen", Modifier.isPublic(field.getModifiers()), none);
            DUE.is(field + " is private", Modifier.isPrivate(field.getModifiers()), !none);
        }
        DUE.is("constructors", HillLeavers.class.getDeclaredConstructors().length, 1);
        DUE.is("final", Modifier.isFinal(HillLeavers.class.getModifiers()), true);
        DUE.is("public", Modifier.isPublic(HillLeavers.class.getModifiers()), true);
    }

    private static List<Class<?>> classes() {
        List<Class<?>> classes = new ArrayList<>(Arrays.asList(HillLeavers.class.getDeclaredClasses()));
        classes.add(HillLeavers.class);
        return classes;
    }

    private static void sizes() {
        DUE.is("too many classes", classes().size() > 12, false);
        for (Class<?> type : classes()) {
            int fields = 0;
            for (Field field : type.getDeclaredFields()) {
                boolean fixed = Modifier.isFinal(field.getModifiers());
                if (Modifier.isStatic(field.getModifiers())) {
                    DUE.is(field + " is final", fixed, true);
                } else {
                    fields++;
                }
            }
            DUE.is(type + " has too many fields: " + fields, fields > 20, false);
        }
    }

    /** Comments and texts are taken out ahead of the look. */
    private static void source() throws IOException {
        String source = Files.readString(SOURCE);
        String code = source.replaceAll("(?s)/\\*.*?\\*/", "").replaceAll("//[^\n]*", "").replaceAll("\"[^\"]*\"", "\"\"");
        for (String outside : OUTSIDE) {
            Matcher found = Pattern.compile(outside).matcher(code);
            DUE.is("the source has " + outside, found.find(), false);
        }
        int from = -1;
        String[] lines = source.split("\n");
        for (int i = 0; i < lines.length; i++) {
            if (lines[i].matches("(    |        )[a-zA-Z].*\\) \\{")) {
                from = i;
            } else if (lines[i].matches("(    |        )\\}") && from >= 0) {
                DUE.is("too long from line " + (from + 1), i - from > 60, false);
                from = -1;
            }
            DUE.is("too wide: line " + (i + 1), lines[i].length() > 130, false);
        }
    }
}
