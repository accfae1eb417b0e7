import java.lang.reflect.Method;
import java.lang.reflect.Modifier;
import java.util.Arrays;

/**
 * LANGUAGE.md, rule 7: no call may ever throw, for any arguments in any state. Every call of the face is made with
 * all combinations of numbers at the edges, on new objects and on full ones. What an object answers after its 512th
 * call is free, so the answers are not looked at; that it must not throw holds there too.
 */
public final class NothingThrowsTest {
    private static final int[] EDGES = {
        Integer.MIN_VALUE, -1000000001, -2, -1, 0, 1, 2, 5, 6, 7, 8, 9, 10, 13, 14, 16, 17, 20, 21, 99, 100, Integer.MAX_VALUE,
    };
    private static final int ROUNDS = 3;

    private final Due due = new Due();

    public static void main(String[] args) {
        NothingThrowsTest test = new NothingThrowsTest();
        for (Method method : StyleFamilies.class.getDeclaredMethods()) {
            if (Modifier.isPublic(method.getModifiers())) {
                test.allCombinations(method, new StyleFamilies());
                test.allCombinations(method, full());
            }
        }
        test.allMethodsInTurn(full());
        test.due.end();
    }

    /** Six styles in a chain, eight paragraphs of eight looks, a full book, both images, and 16 deeds. */
    private static StyleFamilies full() {
        StyleFamilies x = new StyleFamilies();
        x.drift(8);
        for (int s = 0; s < 6; s++) {
            x.style();
            x.parent(s, s - 1);
            x.sets(s, s, 1);
        }
        for (int p = 0; p < 8; p++) {
            x.apply(p, p % 6);
            x.direct(p, 3, 90 + p);
        }
        for (int k = 0; k < 20; k++) {
            x.write(k % 8, k % 6, 0);
        }
        x.keep(0);
        x.keep(1);
        for (int k = 0; k < 16; k++) {
            x.ground(2, k);
        }
        return x;
    }

    private void allCombinations(Method method, StyleFamilies x) {
        int number = 1;
        for (int k = 0; k < method.getParameterCount(); k++) {
            number *= EDGES.length;
        }
        for (int code = 0; code < number; code++) {
            call(method, x, code);
        }
    }

    /** All calls one after the other, so that each comes upon what the others have left. */
    private void allMethodsInTurn(StyleFamilies x) {
        int most = EDGES.length * EDGES.length * EDGES.length;
        for (int code = 0; code < ROUNDS * most; code++) {
            for (Method method : StyleFamilies.class.getDeclaredMethods()) {
                if (Modifier.isPublic(method.getModifiers()) && method.getParameterCount() > 0) {
                    // The step has no divisor in common with the number of edges: all combinations come in mixed order.
                    call(method, x, (int) (code * 7919L % most));
                }
            }
            x.paragraph();
            x.style();
        }
        x.tidy();
        x.knit();
        x.adopt();
    }

    private void call(Method method, StyleFamilies x, int code) {
        Object[] arguments = new Object[method.getParameterCount()];
        int rest = code;
        for (int k = 0; k < arguments.length; k++) {
            arguments[k] = EDGES[rest % EDGES.length];
            rest /= EDGES.length;
        }
        boolean answered = true;
        try {
            method.invoke(x, arguments);
        } catch (ReflectiveOperationException thrown) {
            answered = false;
        }
        due.isTrue(method.getName() + Arrays.toString(arguments) + " does not throw", answered);
    }
}
