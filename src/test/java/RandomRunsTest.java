import java.util.Random;

/** Long runs of random calls, right and wrong ones, on the class and on the naive program side by side. */
public final class RandomRunsTest {
    private static final String[] NAMES = {
        "told", "has", "from", "paragraphAt", "styleAt", "styleHas", "lookAt", "apart", "paragraph", "style",
        "direct", "sets", "ground", "head", "apply", "parent", "restyle", "reparent", "drop", "take", "swap",
        "tidy", "knit", "adopt", "drift", "undo", "write", "tear", "seed", "keep", "goBack",
    };
    // How often a call is drawn, in the order of NAMES: few that destroy much, or that cost much to try out.
    private static final int[] SHARES = {
        14, 6, 6, 12, 12, 5, 4, 5, 8, 8,
        14, 16, 4, 3, 10, 12, 6, 6, 3, 3, 3,
        2, 2, 1, 3, 3, 3, 1, 1, 1, 1,
    };
    private static final int[] ODD = {-1000000001, Integer.MIN_VALUE, Integer.MAX_VALUE, -2, 99, 100, 6, 8, 14, 17, 21};

    private final Random random;
    private final int values;
    private final StringBuilder run = new StringBuilder();

    private RandomRunsTest(int seed) {
        random = new Random(seed);
        // Few different values make many equal costs, which the order of choice has to decide.
        values = 1 + seed % 4;
    }

    public static void main(String[] args) {
        int runs = args.length > 0 ? Integer.parseInt(args[0]) : 150;
        int wrong = 0;
        for (int seed = 0; seed < runs && wrong < 3; seed++) {
            wrong += new RandomRunsTest(seed).wholeRun(seed) ? 0 : 1;
        }
        System.out.println(runs + " runs, " + wrong + " of them wrong");
        if (wrong != 0) {
            System.exit(1);
        }
    }

    private boolean wholeRun(int seed) {
        StyleFamilies x = new StyleFamilies();
        NaiveFamilies y = new NaiveFamilies();
        for (int k = 0; k < 512; k++) {
            if (!oneCall(x, y)) {
                System.out.println("in the run of seed " + seed + ":\n" + run);
                return false;
            }
        }
        return true;
    }

    private boolean oneCall(StyleFamilies x, NaiveFamilies y) {
        int drawn = drawCall();
        // The naive program is asked what there is: an object is used for at most 512 calls.
        Call call = new Call(NAMES[drawn], arguments(drawn, y));
        int got = call.on(x);
        int want = call.on(y);
        run.append(call.text()).append(" = ").append(got).append('\n');
        if (got != want) {
            run.append("due is ").append(want).append('\n');
        }
        return got == want;
    }

    private int drawCall() {
        int all = 0;
        for (int share : SHARES) {
            all += share;
        }
        int drawn = random.nextInt(all);
        int call = 0;
        while (drawn >= SHARES[call]) {
            drawn -= SHARES[call];
            call++;
        }
        return call;
    }

    private int upTo(int most) {
        return random.nextInt(40) == 0 ? ODD[random.nextInt(ODD.length)] : random.nextInt(most + 1);
    }

    private int orNone(int number) {
        return random.nextInt(6) == 0 ? -1 : number;
    }

    private int value(int property) {
        if (random.nextInt(40) == 0) {
            return ODD[random.nextInt(ODD.length)];
        }
        if (property < 2) {
            return random.nextInt(2);
        }
        return property < 4 ? 7 * random.nextInt(values + 1) : Math.min(9, 3 * random.nextInt(values + 1));
    }

    /** A number of one that there is, mostly. */
    private int among(int count) {
        return count == 0 || random.nextInt(25) == 0 ? upTo(8) - 1 : random.nextInt(count);
    }

    private int[] arguments(int call, NaiveFamilies y) {
        int paragraphs = y.told(0);
        int styles = y.told(1);
        int property = upTo(5);
        switch (NAMES[call]) {
            case "told": return new int[] {upTo(13)};
            case "has": case "from": return new int[] {among(paragraphs), property};
            case "paragraphAt": return new int[] {among(paragraphs), upTo(5)};
            case "styleAt": return new int[] {among(styles), upTo(6)};
            case "styleHas": return new int[] {orNone(among(styles)), property};
            case "lookAt": return new int[] {among(y.told(4)), property};
            case "apart": return new int[] {among(y.told(4)), orNone(among(y.told(4)))};
            case "direct": return new int[] {among(paragraphs), property, orNone(value(property))};
            case "sets": return new int[] {among(styles), property, orNone(value(property))};
            case "ground": return new int[] {property, value(property)};
            case "head": return new int[] {upTo(20)};
            case "apply": case "restyle": return new int[] {among(paragraphs), orNone(among(styles))};
            case "parent": case "reparent": return new int[] {among(styles), orNone(among(styles))};
            case "drop": return new int[] {among(styles)};
            case "take": return new int[] {among(paragraphs)};
            case "swap": return new int[] {among(paragraphs), among(paragraphs)};
            case "drift": return new int[] {upTo(8)};
            case "undo": return new int[] {random.nextInt(3) == 0 ? upTo(16) : upTo(3)};
            case "write": return writing(y, among(paragraphs), property);
            case "seed": return new int[] {random.nextInt()};
            case "keep": case "goBack": return new int[] {upTo(2)};
            default: return new int[0];
        }
    }

    private int[] writing(NaiveFamilies y, int p, int property) {
        return new int[] {p, property, random.nextInt(5) == 0 ? value(property) : y.has(p, property)};
    }
}
