import java.util.ArrayList;
import java.util.Arrays;
import java.util.List;
import java.util.TreeSet;

/**
 * The document once more, written as plainly as possible and apart from the class: styles are
 * objects, looks are lists, and the best parents and styles are found by trying all of them.
 */
final class NaiveFamilies {
    static final int NONE = -1, UNKNOWN = -1000000001, OUTSIDE = -1000000002, NOT = -1000000003, FULL = -1000000004;

    private static final class Style {
        Style parent;
        final int[] sets = {-1, -1, -1, -1, -1, -1};
    }

    private static final class Paragraph {
        Style style;
        final int[] given = {-1, -1, -1, -1, -1, -1};
    }

    private static final class World {
        int head = 6;
        final int[] ground = new int[6];
        final List<Style> styles = new ArrayList<>();
        final List<Paragraph> paragraphs = new ArrayList<>();

        World copy() {
            World to = new World();
            to.head = head;
            System.arraycopy(ground, 0, to.ground, 0, 6);
            for (Style s : styles) {
                Style c = new Style();
                System.arraycopy(s.sets, 0, c.sets, 0, 6);
                to.styles.add(c);
            }
            for (int i = 0; i < styles.size(); i++) {
                int at = styles.indexOf(styles.get(i).parent);
                to.styles.get(i).parent = at < 0 ? null : to.styles.get(at);
            }
            for (Paragraph p : paragraphs) {
                Paragraph c = new Paragraph();
                System.arraycopy(p.given, 0, c.given, 0, 6);
                int at = styles.indexOf(p.style);
                c.style = at < 0 ? null : to.styles.get(at);
                to.paragraphs.add(c);
            }
            return to;
        }
    }

    private World w = new World();
    private long random = 0;
    private final List<World> past = new ArrayList<>();
    private final List<int[]> book = new ArrayList<>();
    private final World[] images = new World[2];
    private final long[] imageRandom = new long[2];

    private void deed() {
        past.add(w.copy());
        if (past.size() > 16) {
            past.remove(0);
        }
    }

    // ---- looks, bits, costs

    static boolean legal(int property, int v) {
        return v >= 0 && v <= (property <= 1 ? 1 : property <= 3 ? 99 : 9);
    }

    static int bits(int property, int v) {
        switch (property) {
            case 0: case 1: return 2;
            case 2: case 3: return v <= 9 ? 4 : 5;
            default: return 3 + (v - v % 2) / 2;
        }
    }

    private int valueOf(Style s, int property) {
        if (s == null) {
            return w.ground[property];
        }
        return s.sets[property] >= 0 ? s.sets[property] : valueOf(s.parent, property);
    }

    private int valueOf(Paragraph p, int property) {
        return p.given[property] >= 0 ? p.given[property] : valueOf(p.style, property);
    }

    private List<Integer> look(Style s) {
        List<Integer> look = new ArrayList<>();
        for (int i = 0; i < 6; i++) {
            look.add(valueOf(s, i));
        }
        return look;
    }

    private List<Integer> look(Paragraph p) {
        List<Integer> look = new ArrayList<>();
        for (int i = 0; i < 6; i++) {
            look.add(valueOf(p, i));
        }
        return look;
    }

    private static int compare(List<Integer> a, List<Integer> b) {
        for (int i = 0; i < 6; i++) {
            if (!a.get(i).equals(b.get(i))) {
                return a.get(i) - b.get(i);
            }
        }
        return 0;
    }

    private List<List<Integer>> looks() {
        TreeSet<List<Integer>> all = new TreeSet<>(NaiveFamilies::compare);
        for (Paragraph p : w.paragraphs) {
            all.add(look(p));
        }
        return new ArrayList<>(all);
    }

    private static int distance(List<Integer> a, List<Integer> b) {
        int sum = 0;
        for (int i = 0; i < 6; i++) {
            sum += a.get(i).equals(b.get(i)) ? 0 : bits(i, a.get(i));
        }
        return sum;
    }

    private static int bitsOf(int[] values) {
        int sum = 0;
        for (int i = 0; i < 6; i++) {
            sum += values[i] < 0 ? 0 : bits(i, values[i]);
        }
        return sum;
    }

    private static int setOf(int[] values) {
        int set = 0;
        for (int i = 0; i < 6; i++) {
            set += values[i] < 0 ? 0 : 1 << i;
        }
        return set;
    }

    private int cost(Style s) {
        return w.head + (s.parent == null ? 0 : 2) + bitsOf(s.sets);
    }

    private int cost(Paragraph p) {
        return (p.style == null ? 0 : 1) + bitsOf(p.given);
    }

    private int costOfAll() {
        return w.styles.stream().mapToInt(this::cost).sum() + w.paragraphs.stream().mapToInt(this::cost).sum();
    }

    private void keepLook(int[] values, List<Integer> look, List<Integer> under) {
        for (int i = 0; i < 6; i++) {
            values[i] = look.get(i).equals(under.get(i)) ? -1 : look.get(i);
        }
    }

    // ---- the best parents, by trying all of them in lexicographic order

    private static final class Trial {
        final int n;
        final int[][] price;
        final int[] now;
        int[] best;
        int bestCost = Integer.MAX_VALUE;

        Trial(List<List<Integer>> looks, List<Integer> ground) {
            n = looks.size();
            price = new int[n][n + 1];
            now = new int[n];
            for (int i = 0; i < n; i++) {
                price[i][0] = distance(looks.get(i), ground);
                for (int j = 0; j < n; j++) {
                    price[i][j + 1] = 2 + distance(looks.get(i), looks.get(j));
                }
            }
            attempt(0, 0);
        }

        void attempt(int i, int cost) {
            if (cost >= bestCost) {
                return;
            }
            if (i == n) {
                if (!cyclic()) {
                    bestCost = cost;
                    best = now.clone();
                }
                return;
            }
            for (int t = -1; t < n; t++) {
                now[i] = t;
                attempt(i + 1, cost + price[i][t + 1]);
            }
        }

        boolean cyclic() {
            for (int i = 0; i < n; i++) {
                int at = i;
                for (int step = 0; step <= n && at >= 0; step++) {
                    at = now[at];
                }
                if (at >= 0) {
                    return true;
                }
            }
            return false;
        }
    }

    private Trial trialOfStyles() {
        List<List<Integer>> all = new ArrayList<>();
        for (Style s : w.styles) {
            all.add(look(s));
        }
        return new Trial(all, look((Style) null));
    }

    /** The best set and its cost. */
    private int[] bestStyles() {
        List<List<Integer>> looks = looks();
        List<Integer> ground = look((Style) null);
        int[] best = null;
        for (int set = 0; set < 1 << looks.size(); set++) {
            List<List<Integer>> chosen = chosen(looks, set);
            if (chosen.size() > 6) {
                continue;
            }
            int cost = w.head * chosen.size() + new Trial(chosen, ground).bestCost;
            for (Paragraph p : w.paragraphs) {
                int least = distance(look(p), ground);
                for (List<Integer> c : chosen) {
                    least = Math.min(least, 1 + distance(look(p), c));
                }
                cost += least;
            }
            int[] candidate = {cost, chosen.size(), set};
            if (best == null || Arrays.compare(candidate, best) < 0) {
                best = candidate;
            }
        }
        return best;
    }

    private static List<List<Integer>> chosen(List<List<Integer>> looks, int set) {
        List<List<Integer>> chosen = new ArrayList<>();
        for (int l = 0; l < looks.size(); l++) {
            if ((set & 1 << l) != 0) {
                chosen.add(looks.get(l));
            }
        }
        return chosen;
    }

    /** The nearest style of a paragraph and what it would cost with it. */
    private int[] nearest(Paragraph p) {
        int[] best = {NONE, distance(look(p), look((Style) null))};
        for (int s = 0; s < w.styles.size(); s++) {
            int cost = 1 + distance(look(p), look(w.styles.get(s)));
            if (cost < best[1]) {
                best = new int[] {s, cost};
            }
        }
        return best;
    }

    // ---- redundant values

    private int redundant(boolean remove) {
        List<int[]> found = new ArrayList<>();
        List<int[]> rows = new ArrayList<>();
        for (Style s : w.styles) {
            collectRedundant(s.sets, s.parent, found, rows);
        }
        for (Paragraph p : w.paragraphs) {
            collectRedundant(p.given, p.style, found, rows);
        }
        for (int i = 0; remove && i < found.size(); i++) {
            rows.get(i)[found.get(i)[0]] = -1;
        }
        return found.size();
    }

    private void collectRedundant(int[] values, Style under, List<int[]> found, List<int[]> rows) {
        for (int i = 0; i < 6; i++) {
            if (values[i] >= 0 && values[i] == valueOf(under, i)) {
                found.add(new int[] {i});
                rows.add(values);
            }
        }
    }

    // ---- the calls

    private boolean noParagraph(int p) {
        return p < 0 || p >= w.paragraphs.size();
    }

    private boolean noStyle(int s) {
        return s < 0 || s >= w.styles.size();
    }

    private boolean noProperty(int property) {
        return property < 0 || property > 5;
    }

    private Style styleOf(int s) {
        return s == NONE ? null : w.styles.get(s);
    }

    int told(int what) {
        switch (what) {
            case 0: return w.paragraphs.size();
            case 1: return w.styles.size();
            case 2: return costOfAll();
            case 3: return redundant(false);
            case 4: return looks().size();
            case 5: return w.head * w.styles.size() + trialOfStyles().bestCost;
            case 6: return bestStyles()[0];
            case 7: return bestStyles()[2];
            case 8: return unused();
            case 9: return w.head;
            case 10: return book.size();
            case 11: return firstWrong();
            case 12: return past.size();
            case 13: return (int) random;
            default: return OUTSIDE;
        }
    }

    private int unused() {
        int set = 0;
        for (int s = 0; s < w.styles.size(); s++) {
            Style style = w.styles.get(s);
            boolean used = w.paragraphs.stream().anyMatch(p -> p.style == style)
                || w.styles.stream().anyMatch(t -> t.parent == style);
            set += used ? 0 : 1 << s;
        }
        return set;
    }

    private int firstWrong() {
        for (int i = 0; i < book.size(); i++) {
            int[] e = book.get(i);
            if (noParagraph(e[0]) || valueOf(w.paragraphs.get(e[0]), e[1]) != e[2]) {
                return i;
            }
        }
        return NONE;
    }

    int has(int p, int property) {
        return noParagraph(p) || noProperty(property) ? UNKNOWN : valueOf(w.paragraphs.get(p), property);
    }

    int from(int p, int property) {
        if (noParagraph(p) || noProperty(property)) {
            return UNKNOWN;
        }
        Paragraph at = w.paragraphs.get(p);
        if (at.given[property] >= 0) {
            return 1;
        }
        for (Style s = at.style; s != null; s = s.parent) {
            if (s.sets[property] >= 0) {
                return 10 + w.styles.indexOf(s);
            }
        }
        return 0;
    }

    int paragraphAt(int p, int what) {
        if (noParagraph(p)) {
            return UNKNOWN;
        }
        Paragraph at = w.paragraphs.get(p);
        switch (what) {
            case 0: return w.styles.indexOf(at.style);
            case 1: return cost(at);
            case 2: return nearest(at)[0];
            case 3: return nearest(at)[1];
            case 4: return looks().indexOf(look(at));
            case 5: return setOf(at.given);
            default: return OUTSIDE;
        }
    }

    int styleAt(int s, int what) {
        if (noStyle(s)) {
            return UNKNOWN;
        }
        Style at = w.styles.get(s);
        switch (what) {
            case 0: return w.styles.indexOf(at.parent);
            case 1: return cost(at);
            case 2: return ancestors(at).size();
            case 3: return (int) w.paragraphs.stream().filter(p -> p.style == at).count();
            case 4: return children(at);
            case 5: return setOf(at.sets);
            case 6: return trialOfStyles().best[s];
            default: return OUTSIDE;
        }
    }

    private static List<Style> ancestors(Style s) {
        List<Style> all = new ArrayList<>();
        for (Style t = s.parent; t != null; t = t.parent) {
            all.add(t);
        }
        return all;
    }

    private int children(Style s) {
        int set = 0;
        for (int t = 0; t < w.styles.size(); t++) {
            set += w.styles.get(t).parent == s ? 1 << t : 0;
        }
        return set;
    }

    int styleHas(int s, int property) {
        return s != NONE && noStyle(s) || noProperty(property) ? UNKNOWN : valueOf(styleOf(s), property);
    }

    int lookAt(int l, int property) {
        return l < 0 || l >= looks().size() || noProperty(property) ? UNKNOWN : looks().get(l).get(property);
    }

    int apart(int l, int m) {
        int n = looks().size();
        if (l < 0 || l >= n || m < -1 || m >= n) {
            return UNKNOWN;
        }
        return distance(looks().get(l), m == NONE ? look((Style) null) : looks().get(m));
    }

    int paragraph() {
        if (w.paragraphs.size() == 8) {
            return FULL;
        }
        deed();
        w.paragraphs.add(new Paragraph());
        return w.paragraphs.size() - 1;
    }

    int style() {
        if (w.styles.size() == 6) {
            return FULL;
        }
        deed();
        w.styles.add(new Style());
        return w.styles.size() - 1;
    }

    int direct(int p, int property, int v) {
        if (noParagraph(p) || noProperty(property)) {
            return UNKNOWN;
        }
        if (v != NONE && !legal(property, v)) {
            return OUTSIDE;
        }
        deed();
        int[] values = w.paragraphs.get(p).given;
        int before = values[property];
        values[property] = v;
        return before;
    }

    int sets(int s, int property, int v) {
        if (noStyle(s) || noProperty(property)) {
            return UNKNOWN;
        }
        if (v != NONE && !legal(property, v)) {
            return OUTSIDE;
        }
        deed();
        int[] values = w.styles.get(s).sets;
        int before = values[property];
        values[property] = v;
        return before;
    }

    int ground(int property, int v) {
        if (noProperty(property)) {
            return UNKNOWN;
        }
        if (!legal(property, v)) {
            return OUTSIDE;
        }
        deed();
        int before = w.ground[property];
        w.ground[property] = v;
        return before;
    }

    int head(int v) {
        if (v < 1 || v > 20) {
            return OUTSIDE;
        }
        deed();
        int before = w.head;
        w.head = v;
        return before;
    }

    int apply(int p, int s) {
        if (noParagraph(p) || s != NONE && noStyle(s)) {
            return UNKNOWN;
        }
        deed();
        Paragraph at = w.paragraphs.get(p);
        int before = w.styles.indexOf(at.style);
        at.style = styleOf(s);
        return before;
    }

    private int parentError(int s, int t) {
        if (noStyle(s) || t != NONE && noStyle(t)) {
            return UNKNOWN;
        }
        return t != NONE && (s == t || ancestors(styleOf(t)).contains(styleOf(s))) ? NOT : 0;
    }

    int parent(int s, int t) {
        if (parentError(s, t) != 0) {
            return parentError(s, t);
        }
        deed();
        Style at = w.styles.get(s);
        int before = w.styles.indexOf(at.parent);
        at.parent = styleOf(t);
        return before;
    }

    private void restyle(Paragraph p, Style s) {
        List<Integer> look = look(p);
        p.style = s;
        keepLook(p.given, look, look(s));
    }

    private void reparent(Style s, Style t) {
        List<Integer> look = look(s);
        s.parent = t;
        keepLook(s.sets, look, look(t));
    }

    int restyle(int p, int s) {
        if (noParagraph(p) || s != NONE && noStyle(s)) {
            return UNKNOWN;
        }
        deed();
        restyle(w.paragraphs.get(p), styleOf(s));
        return cost(w.paragraphs.get(p));
    }

    int reparent(int s, int t) {
        if (parentError(s, t) != 0) {
            return parentError(s, t);
        }
        deed();
        reparent(w.styles.get(s), styleOf(t));
        return cost(w.styles.get(s));
    }

    int drop(int s) {
        if (noStyle(s)) {
            return UNKNOWN;
        }
        deed();
        Style gone = w.styles.get(s);
        w.paragraphs.stream().filter(p -> p.style == gone).forEach(p -> restyle(p, gone.parent));
        w.styles.stream().filter(t -> t.parent == gone).forEach(t -> reparent(t, gone.parent));
        w.styles.remove(s);
        return w.styles.size();
    }

    int take(int p) {
        if (noParagraph(p)) {
            return UNKNOWN;
        }
        deed();
        w.paragraphs.remove(p);
        return w.paragraphs.size();
    }

    int swap(int p, int q) {
        if (noParagraph(p) || noParagraph(q)) {
            return UNKNOWN;
        }
        deed();
        Paragraph first = w.paragraphs.get(p);
        Paragraph second = w.paragraphs.get(q);
        w.paragraphs.set(p, second);
        w.paragraphs.set(q, first);
        return look(first).equals(look(second)) ? 0 : 1;
    }

    int tidy() {
        deed();
        return redundant(true);
    }

    private void settle(List<List<Integer>> looks, int[] parents) {
        for (int s = 0; s < looks.size(); s++) {
            Style at = w.styles.get(s);
            at.parent = styleOf(parents[s]);
            keepLook(at.sets, looks.get(s), parents[s] == NONE ? look((Style) null) : looks.get(parents[s]));
        }
    }

    int knit() {
        deed();
        List<List<Integer>> all = new ArrayList<>();
        for (Style s : w.styles) {
            all.add(look(s));
        }
        settle(all, trialOfStyles().best);
        return costOfAll();
    }

    int adopt() {
        deed();
        List<List<Integer>> all = chosen(looks(), bestStyles()[2]);
        List<List<Integer>> worn = new ArrayList<>();
        for (Paragraph p : w.paragraphs) {
            worn.add(look(p));
        }
        w.styles.clear();
        for (int s = 0; s < all.size(); s++) {
            w.styles.add(new Style());
        }
        settle(all, new Trial(all, look((Style) null)).best);
        for (int i = 0; i < worn.size(); i++) {
            Paragraph p = w.paragraphs.get(i);
            p.style = null;
            keepLook(p.given, worn.get(i), look((Style) null));
            restyle(p, styleOf(nearest(p)[0]));
        }
        return costOfAll();
    }

    private int draw(int below) {
        random = (random * 1103515245L + 12345L) % (1L << 31);
        return (int) (random / 65536 % below);
    }

    int drift(int n) {
        if (n < 1 || n > 8) {
            return OUTSIDE;
        }
        for (int k = 0; k < n && w.paragraphs.size() < 8; k++) {
            deed();
            Paragraph p = new Paragraph();
            for (int i = 0; i < 6; i++) {
                if (draw(3) != 0) {
                    p.given[i] = i < 2 ? draw(2) : i < 4 ? 5 * draw(3) : 2 * draw(3);
                }
            }
            w.paragraphs.add(p);
        }
        return w.paragraphs.size();
    }

    int undo(int n) {
        if (n < 1 || n > 16) {
            return OUTSIDE;
        }
        if (past.size() < n) {
            return NOT;
        }
        for (int k = 0; k < n; k++) {
            w = past.remove(past.size() - 1);
        }
        return past.size();
    }

    int write(int p, int property, int v) {
        if (noParagraph(p) || noProperty(property)) {
            return UNKNOWN;
        }
        if (book.size() == 20) {
            return FULL;
        }
        book.add(new int[] {p, property, v});
        return book.size();
    }

    int tear() {
        int before = book.size();
        book.clear();
        return before;
    }

    int seed(int v) {
        if (v < 0) {
            return OUTSIDE;
        }
        int before = (int) random;
        random = v;
        return before;
    }

    int keep(int i) {
        if (i != 0 && i != 1) {
            return UNKNOWN;
        }
        images[i] = w.copy();
        imageRandom[i] = random;
        past.clear();
        return 1;
    }

    int goBack(int i) {
        if (i != 0 && i != 1) {
            return UNKNOWN;
        }
        if (images[i] == null) {
            return NOT;
        }
        w = images[i].copy();
        random = imageRandom[i];
        past.clear();
        return 1;
    }
}
