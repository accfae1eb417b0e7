import java.lang.reflect.Method;
import java.lang.reflect.Modifier;
import java.util.ArrayList;
import java.util.Arrays;
import java.util.Comparator;
import java.util.List;
import java.util.Map;

/**
 * A run of calls on a new object, written as in the document's examples: "paragraph() = 0; told(14) = OUTSIDE".
 * An answer may be a sum, to show how it was worked out. A call without an answer only prepares, and must not be
 * refused. Behind each call that is refused as due, the run sees to it that nothing has changed.
 */
final class Run {
    private static final int UNKNOWN = -1000000001, FULL = -1000000004;
    private static final Map<String, Integer> WORDS = Map.of(
        "NONE", -1, "UNKNOWN", UNKNOWN, "OUTSIDE", -1000000002, "NOT", -1000000003, "FULL", FULL,
        "MIN", Integer.MIN_VALUE, "MAX", Integer.MAX_VALUE);
    // Nothing is promised beyond that, so no test may look there.
    private static final int MOST_CALLS = 512;

    private final Due due;
    private final String test;
    private final List<Call> made = new ArrayList<>();
    private StyleFamilies x = new StyleFamilies();

    private Run(Due due, String test) {
        this.due = due;
        this.test = test;
    }

    /** Runs all tests of a class: its methods that take a run, without the private ones, which only help. */
    static void all(Class<?> tests) throws ReflectiveOperationException {
        Due due = new Due();
        Method[] methods = tests.getDeclaredMethods();
        Arrays.sort(methods, Comparator.comparing(Method::getName));
        int number = 0;
        for (Method method : methods) {
            boolean takesRun = Arrays.equals(method.getParameterTypes(), new Class<?>[] {Run.class});
            if (takesRun && !Modifier.isPrivate(method.getModifiers())) {
                method.invoke(null, new Run(due, method.getName()));
                number++;
            }
        }
        due.isTrue(tests.getName() + " has tests", number > 0);
        System.out.println(number + " tests");
        due.end();
    }

    /** Goes on with a new object. */
    void anew() {
        x = new StyleFamilies();
        made.clear();
    }

    void calls(String text) {
        make(text, false);
    }

    /** Calls that only tell: behind each of them nothing has changed. */
    void tells(String text) {
        make(text, true);
    }

    /** The calls once for each of the numbers, which stands in place of #. */
    void each(String text, int... numbers) {
        for (int number : numbers) {
            calls(text.replace("#", Integer.toString(number)));
        }
    }

    private void make(String text, boolean tells) {
        for (String part : text.split(";")) {
            if (!part.isBlank()) {
                String[] sides = part.trim().split(" = ");
                String label = test + ": call " + (made.size() + 1) + ", " + sides[0];
                int got = answer(parsed(sides[0]));
                if (sides.length < 2) {
                    due.isTrue(label + ", which prepares only, is not refused", !isError(got));
                } else {
                    due.is(label, got, sum(sides[1]));
                }
                if (tells || isError(got)) {
                    nothingHasChanged(label);
                }
            }
        }
    }

    private int answer(Call call) {
        made.add(call);
        spare(made.size());
        return call.on(x);
    }

    private static Call parsed(String text) {
        int open = text.indexOf('(');
        String inside = text.substring(open + 1, text.lastIndexOf(')'));
        int[] arguments = inside.isBlank() ? new int[0] : Arrays.stream(inside.split(",")).mapToInt(Run::number).toArray();
        return new Call(text.substring(0, open), arguments);
    }

    private static int sum(String text) {
        return Arrays.stream(text.split("\\+")).mapToInt(Run::number).sum();
    }

    private static int number(String text) {
        String word = text.trim();
        return WORDS.containsKey(word) ? WORDS.get(word) : Integer.parseInt(word);
    }

    private static boolean isError(int answer) {
        return answer <= UNKNOWN && answer >= FULL;
    }

    private static void spare(int calls) {
        if (calls > MOST_CALLS) {
            throw new IllegalStateException("more calls than an object is used for");
        }
    }

    /** Makes the run twice more, with and without its last call, and looks at both: also at what undo and goBack bring. */
    private void nothingHasChanged(String label) {
        List<Call> without = made.subList(0, made.size() - 1);
        Call look = new Call("told", 12);
        same(label + " changes nothing", without, look);
        int deeds = seen(without, look)[0];
        for (int n = 1; n <= deeds; n++) {
            same(label + " changes nothing that undo(" + n + ") brings", without, new Call("undo", n));
        }
        same(label + " changes nothing in image 0", without, new Call("goBack", 0));
        same(label + " changes nothing in image 1", without, new Call("goBack", 1));
    }

    private void same(String label, List<Call> without, Call then) {
        due.isTrue(label, Arrays.equals(seen(made, then), seen(without, then)));
    }

    /** The answer of a call behind others on a new object, and all that can be seen after that. */
    private static int[] seen(List<Call> calls, Call then) {
        StyleFamilies y = new StyleFamilies();
        for (Call call : calls) {
            call.on(y);
        }
        List<Integer> seen = new ArrayList<>();
        seen.add(then.on(y));
        for (int what : new int[] {0, 1, 9, 10, 11, 12, 13}) {
            seen.add(y.told(what));
        }
        for (int s = -1; s < seen.get(2); s++) {
            seen.add(y.styleAt(s, 0));
            seen.add(y.styleAt(s, 5));
            for (int property = 0; property < 6; property++) {
                seen.add(y.styleHas(s, property));
            }
        }
        for (int p = 0; p < seen.get(1); p++) {
            seen.add(y.paragraphAt(p, 0));
            seen.add(y.paragraphAt(p, 5));
            for (int property = 0; property < 6; property++) {
                seen.add(y.has(p, property));
            }
        }
        spare(calls.size() + seen.size());
        return seen.stream().mapToInt(Integer::intValue).toArray();
    }
}
