import java.io.IOException;
import java.lang.reflect.Constructor;
import java.lang.reflect.Field;
import java.lang.reflect.Method;
import java.lang.reflect.Modifier;
import java.nio.charset.StandardCharsets;
import java.nio.file.Files;
import java.nio.file.Path;
import java.util.Arrays;
import java.util.Set;
import java.util.TreeSet;
import java.util.regex.Matcher;
import java.util.regex.Pattern;

/** The document's face, and those rules of LANGUAGE.md that can be seen in the class or its text. */
public final class LanguageTest {
    private static final Path SOURCE = Path.of("src/main/java/StyleFamilies.java");
    private static final String[] FACE = {
        "told 1", "has 2", "from 2", "paragraphAt 2", "styleAt 2", "styleHas 2", "lookAt 2", "apart 2", "paragraph 0",
        "style 0", "direct 3", "sets 3", "ground 2", "head 1", "apply 2", "parent 2", "restyle 2", "reparent 2",
        "drop 1", "take 1", "swap 2", "tidy 0", "knit 0", "adopt 0", "drift 1", "undo 1", "write 3", "tear 0",
        "seed 1", "keep 1", "goBack 1",
    };
    private static final String[] CONSTANTS = {"NONE", "UNKNOWN", "OUTSIDE", "NOT", "FULL"};
    private static final String[] FORBIDDEN = {
        "\\b(throws?|try|catch|finally|synchronized|assert|import|package|native|volatile|transient)\\b",
        "->", "::", "\"", "\\b\\w+Exact\\b", "\\b(Integer|Long)\\.(MAX_VALUE|MIN_VALUE)\\b", "\\bstatic \\{",
        "\\b(double|float|var|Object)\\b", "\\.(equals|hashCode|toString|getClass)\\(",
    };
    private static final String LIBRARY =
        "System\\.arraycopy|Integer\\.bitCount|Math\\.(min|max)";

    private final Due due = new Due();

    public static void main(String[] args) throws IOException {
        LanguageTest test = new LanguageTest();
        test.face();
        test.constants();
        test.classesInside();
        String text = withoutComments(Files.readString(SOURCE, StandardCharsets.US_ASCII));
        test.words(text);
        test.lengths(text);
        test.due.end();
    }

    private static Set<String> names(Method[] methods, boolean open) {
        Set<String> names = new TreeSet<>();
        for (Method m : methods) {
            if (Modifier.isPrivate(m.getModifiers()) != open) {
                names.add(m.getName());
            }
        }
        return names;
    }

    private void face() {
        Class<?> c = StyleFamilies.class;
        due.isTrue("1: public and final", Modifier.isPublic(c.getModifiers()) && Modifier.isFinal(c.getModifiers()));
        Constructor<?>[] constructors = c.getDeclaredConstructors();
        due.is("1: constructors", constructors.length, 1);
        due.isTrue("1: the constructor", Modifier.isPublic(constructors[0].getModifiers())
            && constructors[0].getParameterCount() == 0);
        Set<String> got = new TreeSet<>();
        for (Method m : c.getDeclaredMethods()) {
            due.isTrue("11: parameters of " + m, m.getParameterCount() <= 7);
            if (!Modifier.isPrivate(m.getModifiers())) {
                got.add(m.getName() + " " + m.getParameterCount());
                boolean ints = m.getReturnType() == int.class
                    && Arrays.stream(m.getParameterTypes()).allMatch(t -> t == int.class);
                due.isTrue("1: " + m, ints && m.getModifiers() == Modifier.PUBLIC);
            }
        }
        due.isTrue("1: the methods of the face, not " + got, got.equals(new TreeSet<>(Arrays.asList(FACE))));
    }

    private void constants() {
        Set<String> got = new TreeSet<>();
        for (Field f : StyleFamilies.class.getDeclaredFields()) {
            if (!Modifier.isPrivate(f.getModifiers())) {
                got.add(f.getName());
                due.is("1: " + f, f.getModifiers(), Modifier.PUBLIC | Modifier.STATIC | Modifier.FINAL);
            }
        }
        due.isTrue("1: the constants of the face, not " + got, got.equals(new TreeSet<>(Arrays.asList(CONSTANTS))));
        due.is("NONE", StyleFamilies.NONE, -1);
        due.is("UNKNOWN", StyleFamilies.UNKNOWN, -1000000001);
        due.is("OUTSIDE", StyleFamilies.OUTSIDE, -1000000002);
        due.is("NOT", StyleFamilies.NOT, -1000000003);
        due.is("FULL", StyleFamilies.FULL, -1000000004);
    }

    private void classesInside() {
        Set<String> open = names(StyleFamilies.class.getDeclaredMethods(), true);
        Set<String> hidden = names(StyleFamilies.class.getDeclaredMethods(), false);
        fields(StyleFamilies.class);
        Class<?>[] inside = StyleFamilies.class.getDeclaredClasses();
        due.isTrue("11: some twelve classes", inside.length + 1 <= 12);
        for (Class<?> c : inside) {
            int m = c.getModifiers();
            due.isTrue("1: " + c, Modifier.isStatic(m) && !Modifier.isPublic(m) && !Modifier.isProtected(m));
            hidden.addAll(names(c.getDeclaredMethods(), true));
            hidden.addAll(names(c.getDeclaredMethods(), false));
            fields(c);
        }
        hidden.retainAll(open);
        due.isTrue("1: no other method bears a name of the face: " + hidden, hidden.isEmpty());
    }

    private void fields(Class<?> c) {
        int own = 0;
        for (Field f : c.getDeclaredFields()) {
            boolean fixed = Modifier.isStatic(f.getModifiers());
            due.isTrue("5: " + f, !fixed || Modifier.isFinal(f.getModifiers()));
            own += fixed ? 0 : 1;
        }
        due.isTrue("11: some twenty fields in " + c, own <= 20);
    }

    private static String withoutComments(String text) {
        return text.replaceAll("(?s)/\\*.*?\\*/", "").replaceAll("//[^\n]*", "");
    }

    private void words(String text) {
        for (String pattern : FORBIDDEN) {
            Matcher found = Pattern.compile(pattern).matcher(text);
            while (found.find()) {
                due.isTrue("the class has: " + found.group(), false);
            }
        }
        Matcher library = Pattern.compile("\\b(System|Integer|Long|Math|Arrays|String)\\.\\w+").matcher(text);
        while (library.find()) {
            due.isTrue("4: " + library.group(), library.group().matches(LIBRARY));
        }
    }

    /** Methods begin four or eight columns in; none has more than sixty lines. */
    private void lengths(String text) {
        Matcher method = Pattern.compile("(?m)^( {4}| {8})\\w[\\w\\[\\] ]*\\([^;{}]*\\) \\{$(?s:.*?)^\\1\\}$").matcher(text);
        int methods = 0;
        while (method.find()) {
            methods++;
            long lines = method.group().lines().count();
            due.isTrue("11: " + lines + " lines: " + method.group().lines().findFirst().orElse(""), lines <= 60);
        }
        due.isTrue("methods are found", methods > 60);
    }
}
