/** Paragraph styles with inheritance. README.md tells where the promises of each call stand. */
public final class StyleFamilies {
    public static final int NONE = -1, UNKNOWN = -1000000001, OUTSIDE = -1000000002, NOT = -1000000003, FULL = -1000000004;

    private static final int PROPERTIES = 6;
    private static final int MOST_STYLES = 6;
    private static final int MOST_PARAGRAPHS = 8;
    private static final int MOST_LOOKS = MOST_PARAGRAPHS;
    private static final int MOST_DEEDS = 16;
    private static final int MOST_ENTRIES = 20;
    private static final int IMAGES = 2;
    private static final int FIRST_HEAD_COST = 6;
    private static final int TOP_HEAD_COST = 20;
    private static final int PARENT_COST = 2;
    private static final int STYLE_COST = 1;
    private static final int LOW_31_BITS = 0x7fffffff;
    private static final int FROM_GROUND = 0;
    private static final int FROM_PARAGRAPH = 1;
    private static final int FROM_STYLE = 10;

    private final Sheet now = new Sheet();
    private final History history = new History();
    private final Book book = new Book();
    private final Image[] images = new Image[IMAGES];
    private final Looks looks = new Looks();
    private final Forest forest = new Forest();
    private final BestStyles bestStyles = new BestStyles();
    private int random = 0;

    public StyleFamilies() {
        for (int i = 0; i < IMAGES; i++) {
            images[i] = new Image();
        }
    }

    // ---- figures

    public int told(int what) {
        switch (what) {
            case 0: return now.paragraphs.count;
            case 1: return now.styles.count;
            case 2: return now.costOfAll();
            case 3: return now.countRedundant(false);
            case 4: return gatheredLooks().count;
            case 5: return costWithBestParents();
            case 6: return foundBestStyles().cost;
            case 7: return foundBestStyles().set;
            case 8: return now.unusedStyles();
            case 9: return now.headCost;
            case 10: return book.count;
            case 11: return book.firstWrong(now);
            case 12: return history.count;
            case 13: return random;
            default: return OUTSIDE;
        }
    }

    public int has(int p, int property) {
        if (!now.paragraphs.holds(p) || !Values.isProperty(property)) {
            return UNKNOWN;
        }
        return now.paragraphValue(p, property);
    }

    public int from(int p, int property) {
        if (!now.paragraphs.holds(p) || !Values.isProperty(property)) {
            return UNKNOWN;
        }
        if (now.paragraphs.ownValue(p, property) != NONE) {
            return FROM_PARAGRAPH;
        }
        int setter = now.setter(now.paragraphs.base[p], property);
        return setter == NONE ? FROM_GROUND : FROM_STYLE + setter;
    }

    public int paragraphAt(int p, int what) {
        if (!now.paragraphs.holds(p)) {
            return UNKNOWN;
        }
        switch (what) {
            case 0: return now.paragraphs.base[p];
            case 1: return now.paragraphCost(p);
            case 2: return now.nearestStyle(now.paragraphLook(p));
            case 3: return costWithNearestStyle(now.paragraphLook(p));
            case 4: return gatheredLooks().numberOf(now.paragraphLook(p));
            case 5: return now.paragraphs.ownSet(p);
            default: return OUTSIDE;
        }
    }

    public int styleAt(int s, int what) {
        if (!now.styles.holds(s)) {
            return UNKNOWN;
        }
        switch (what) {
            case 0: return now.styles.base[s];
            case 1: return now.styleCost(s);
            case 2: return now.ancestors(s);
            case 3: return Integer.bitCount(now.paragraphs.withBase(s));
            case 4: return now.styles.withBase(s);
            case 5: return now.styles.ownSet(s);
            case 6: return bestParentOf(s);
            default: return OUTSIDE;
        }
    }

    public int styleHas(int s, int property) {
        if (!isStyleOrNone(s) || !Values.isProperty(property)) {
            return UNKNOWN;
        }
        return now.styleValue(s, property);
    }

    public int lookAt(int l, int property) {
        if (!gatheredLooks().holds(l) || !Values.isProperty(property)) {
            return UNKNOWN;
        }
        return Values.inLook(looks.look[l], property);
    }

    public int apart(int l, int m) {
        looks.gather(now);
        if (!looks.holds(l) || m != NONE && !looks.holds(m)) {
            return UNKNOWN;
        }
        int other = m == NONE ? now.styleLook(NONE) : looks.look[m];
        return Values.bitsApart(looks.look[l], other);
    }

    // ---- deeds

    public int paragraph() {
        if (!now.paragraphs.hasRoom()) {
            return FULL;
        }
        history.remember(now);
        return now.paragraphs.append();
    }

    public int style() {
        if (!now.styles.hasRoom()) {
            return FULL;
        }
        history.remember(now);
        return now.styles.append();
    }

    public int direct(int p, int property, int v) {
        return give(now.paragraphs, p, property, v);
    }

    public int sets(int s, int property, int v) {
        return give(now.styles, s, property, v);
    }

    public int ground(int property, int v) {
        if (!Values.isProperty(property)) {
            return UNKNOWN;
        }
        if (!Values.isValue(property, v)) {
            return OUTSIDE;
        }
        history.remember(now);
        int before = now.groundValues[property];
        now.groundValues[property] = v;
        return before;
    }

    public int head(int v) {
        if (v < 1 || v > TOP_HEAD_COST) {
            return OUTSIDE;
        }
        history.remember(now);
        int before = now.headCost;
        now.headCost = v;
        return before;
    }

    public int apply(int p, int s) {
        if (!now.paragraphs.holds(p) || !isStyleOrNone(s)) {
            return UNKNOWN;
        }
        history.remember(now);
        return now.paragraphs.changeBase(p, s);
    }

    public int parent(int s, int t) {
        int error = errorOfParent(s, t);
        if (error != 0) {
            return error;
        }
        history.remember(now);
        return now.styles.changeBase(s, t);
    }

    public int restyle(int p, int s) {
        if (!now.paragraphs.holds(p) || !isStyleOrNone(s)) {
            return UNKNOWN;
        }
        history.remember(now);
        now.rebaseParagraph(p, s);
        return now.paragraphCost(p);
    }

    public int reparent(int s, int t) {
        int error = errorOfParent(s, t);
        if (error != 0) {
            return error;
        }
        history.remember(now);
        now.rebaseStyle(s, t);
        return now.styleCost(s);
    }

    public int drop(int s) {
        if (!now.styles.holds(s)) {
            return UNKNOWN;
        }
        history.remember(now);
        now.removeStyle(s);
        return now.styles.count;
    }

    public int take(int p) {
        if (!now.paragraphs.holds(p)) {
            return UNKNOWN;
        }
        history.remember(now);
        now.paragraphs.remove(p);
        return now.paragraphs.count;
    }

    public int swap(int p, int q) {
        if (!now.paragraphs.holds(p) || !now.paragraphs.holds(q)) {
            return UNKNOWN;
        }
        history.remember(now);
        int differ = now.paragraphLook(p) == now.paragraphLook(q) ? 0 : 1;
        now.paragraphs.exchange(p, q);
        return differ;
    }

    public int tidy() {
        history.remember(now);
        return now.countRedundant(true);
    }

    public int knit() {
        history.remember(now);
        layForestOfStyles();
        forest.chooseParents();
        now.layStyles(forest);
        return now.costOfAll();
    }

    public int adopt() {
        history.remember(now);
        foundBestStyles();
        forest.layChosen(looks, bestStyles.set, now.styleLook(NONE));
        forest.chooseParents();
        now.replaceStyles(forest);
        return now.costOfAll();
    }

    public int drift(int n) {
        if (n < 1 || n > MOST_PARAGRAPHS) {
            return OUTSIDE;
        }
        for (int k = 0; k < n && now.paragraphs.hasRoom(); k++) {
            history.remember(now);
            giveAtRandom(now.paragraphs.append());
        }
        return now.paragraphs.count;
    }

    public int undo(int n) {
        if (n < 1 || n > MOST_DEEDS) {
            return OUTSIDE;
        }
        if (n > history.count) {
            return NOT;
        }
        history.restore(now, n);
        return history.count;
    }

    // ---- the book

    public int write(int p, int property, int v) {
        if (!now.paragraphs.holds(p) || !Values.isProperty(property)) {
            return UNKNOWN;
        }
        if (!book.hasRoom()) {
            return FULL;
        }
        book.append(p, property, v);
        return book.count;
    }

    public int tear() {
        return book.clear();
    }

    // ---- images

    public int seed(int v) {
        if (v < 0) {
            return OUTSIDE;
        }
        int before = random;
        random = v;
        return before;
    }

    public int keep(int i) {
        if (i < 0 || i >= IMAGES) {
            return UNKNOWN;
        }
        images[i].filled = true;
        images[i].random = random;
        images[i].sheet.copyFrom(now);
        history.forget();
        return 1;
    }

    public int goBack(int i) {
        if (i < 0 || i >= IMAGES) {
            return UNKNOWN;
        }
        if (!images[i].filled) {
            return NOT;
        }
        random = images[i].random;
        now.copyFrom(images[i].sheet);
        history.forget();
        return 1;
    }

    // ---- what the calls share

    private boolean isStyleOrNone(int s) {
        return s == NONE || now.styles.holds(s);
    }

    /** The error of giving style s the parent t, or 0, which is no error code. */
    private int errorOfParent(int s, int t) {
        if (!now.styles.holds(s) || !isStyleOrNone(t)) {
            return UNKNOWN;
        }
        return now.descends(t, s) ? NOT : 0;
    }

    private int give(Rows rows, int row, int property, int v) {
        if (!rows.holds(row) || !Values.isProperty(property)) {
            return UNKNOWN;
        }
        if (v != NONE && !Values.isValue(property, v)) {
            return OUTSIDE;
        }
        history.remember(now);
        return rows.changeOwn(row, property, v);
    }

    private Looks gatheredLooks() {
        looks.gather(now);
        return looks;
    }

    private BestStyles foundBestStyles() {
        int groundLook = now.styleLook(NONE);
        looks.gather(now);
        forest.layChosen(looks, (1 << looks.count) - 1, groundLook);
        bestStyles.find(looks, forest, groundLook, now.headCost);
        return bestStyles;
    }

    private void layForestOfStyles() {
        forest.begin(now.styleLook(NONE));
        for (int s = 0; s < now.styles.count; s++) {
            forest.plant(now.styleLook(s));
        }
        forest.grow();
    }

    private int costWithBestParents() {
        layForestOfStyles();
        return now.headCost * now.styles.count + forest.costOfAll();
    }

    private int bestParentOf(int s) {
        layForestOfStyles();
        forest.chooseParents();
        return forest.parents[s];
    }

    private int costWithNearestStyle(int look) {
        return now.costWithStyle(look, now.nearestStyle(look));
    }

    private int draw(int below) {
        random = random * 1103515245 + 12345 & LOW_31_BITS;
        return below > 0 ? random / 65536 % below : 0;
    }

    private void giveAtRandom(int p) {
        for (int property = 0; property < PROPERTIES; property++) {
            if (draw(3) != 0) {
                int drawn = draw(property < Values.FIRST_SIZE ? 2 : 3);
                now.paragraphs.changeOwn(p, property, drawn * Values.RANDOM_STEP[property]);
            }
        }
    }

    /** What can be said of properties, values and looks without styles and paragraphs. */
    private static final class Values {
        static final int FIRST_SIZE = 2;
        static final int FIRST_NAME = 4;
        static final int[] TOP = {1, 1, 99, 99, 9, 9};
        static final int[] RANDOM_STEP = {1, 1, 5, 5, 2, 2};
        // Property 0 has the highest bits, so that looks have the order of their ints.
        static final int[] SHIFT = {23, 22, 15, 8, 4, 0};
        static final int[] MASK = {1, 1, 127, 127, 15, 15};

        static boolean isProperty(int property) {
            return property >= 0 && property < PROPERTIES;
        }

        static boolean isValue(int property, int v) {
            return v >= 0 && v <= TOP[property];
        }

        static int bits(int property, int v) {
            if (property < FIRST_SIZE) {
                return 2;
            }
            if (property < FIRST_NAME) {
                return v < 10 ? 4 : 5;
            }
            return 3 + v / 2;
        }

        static int inLook(int look, int property) {
            return look >> SHIFT[property] & MASK[property];
        }

        static int asPartOfLook(int property, int v) {
            return v << SHIFT[property];
        }

        /** The bits of the values of a look that another look has not. */
        static int bitsApart(int look, int other) {
            int sum = 0;
            for (int property = 0; property < PROPERTIES; property++) {
                int v = inLook(look, property);
                if (v != inLook(other, property)) {
                    sum += bits(property, v);
                }
            }
            return sum;
        }
    }

    /** Styles or paragraphs: each has a base (its parent or its style, or NONE) and values of its own. */
    private static final class Rows {
        // One length for styles and paragraphs, so that no length depends on an argument.
        static final int LENGTH = MOST_PARAGRAPHS;

        final int most;
        int count = 0;
        final int[] base = new int[LENGTH];
        private final int[] own = new int[LENGTH * PROPERTIES];

        Rows(int most) {
            this.most = Math.min(most, LENGTH);
        }

        boolean holds(int row) {
            return row >= 0 && row < count;
        }

        boolean hasRoom() {
            return count < most;
        }

        int ownValue(int row, int property) {
            return own[row * PROPERTIES + property];
        }

        int changeOwn(int row, int property, int v) {
            int before = own[row * PROPERTIES + property];
            own[row * PROPERTIES + property] = v;
            return before;
        }

        int changeBase(int row, int newBase) {
            int before = base[row];
            base[row] = newBase;
            return before;
        }

        int ownBits(int row) {
            int sum = 0;
            for (int property = 0; property < PROPERTIES; property++) {
                int v = ownValue(row, property);
                if (v != NONE) {
                    sum += Values.bits(property, v);
                }
            }
            return sum;
        }

        int ownSet(int row) {
            int set = 0;
            for (int property = 0; property < PROPERTIES; property++) {
                if (ownValue(row, property) != NONE) {
                    set |= 1 << property;
                }
            }
            return set;
        }

        int withBase(int wanted) {
            int set = 0;
            for (int row = 0; row < count; row++) {
                if (base[row] == wanted) {
                    set |= 1 << row;
                }
            }
            return set;
        }

        /** Adds a row without a base and without values; the caller has asked hasRoom. */
        int append() {
            int row = count;
            count++;
            base[row] = NONE;
            for (int property = 0; property < PROPERTIES; property++) {
                changeOwn(row, property, NONE);
            }
            return row;
        }

        void remove(int row) {
            int later = count - row - 1;
            System.arraycopy(base, row + 1, base, row, later);
            System.arraycopy(own, (row + 1) * PROPERTIES, own, row * PROPERTIES, later * PROPERTIES);
            count--;
        }

        void exchange(int p, int q) {
            base[p] = changeBase(q, base[p]);
            for (int property = 0; property < PROPERTIES; property++) {
                int ofP = ownValue(p, property);
                changeOwn(p, property, changeOwn(q, property, ofP));
            }
        }

        /** The bases are numbers of styles: they follow when a style that no row has goes. */
        void renumberBases(int gone) {
            for (int row = 0; row < count; row++) {
                if (base[row] > gone) {
                    base[row]--;
                }
            }
        }

        /** Gives a row a base and, as its own, what keeps the look on a base of that look. */
        void rest(int row, int newBase, int look, int baseLook) {
            base[row] = newBase;
            for (int property = 0; property < PROPERTIES; property++) {
                int v = Values.inLook(look, property);
                changeOwn(row, property, v == Values.inLook(baseLook, property) ? NONE : v);
            }
        }

        void copyFrom(Rows other) {
            count = other.count;
            System.arraycopy(other.base, 0, base, 0, LENGTH);
            System.arraycopy(other.own, 0, own, 0, LENGTH * PROPERTIES);
        }
    }

    /** All that a deed can change and undo restores. */
    private static final class Sheet {
        int headCost = FIRST_HEAD_COST;
        final int[] groundValues = new int[PROPERTIES];
        final Rows styles = new Rows(MOST_STYLES);
        final Rows paragraphs = new Rows(MOST_PARAGRAPHS);

        void copyFrom(Sheet other) {
            headCost = other.headCost;
            System.arraycopy(other.groundValues, 0, groundValues, 0, PROPERTIES);
            styles.copyFrom(other.styles);
            paragraphs.copyFrom(other.paragraphs);
        }

        /** The first of style s and its ancestors that sets the property, or NONE. */
        int setter(int s, int property) {
            int at = s;
            for (int step = 0; step < MOST_STYLES && at != NONE; step++) {
                if (styles.ownValue(at, property) != NONE) {
                    return at;
                }
                at = styles.base[at];
            }
            return NONE;
        }

        /** The value for style s, or of the ground if s is NONE. */
        int styleValue(int s, int property) {
            int at = s;
            for (int step = 0; step < MOST_STYLES && at != NONE; step++) {
                int v = styles.ownValue(at, property);
                if (v != NONE) {
                    return v;
                }
                at = styles.base[at];
            }
            return groundValues[property];
        }

        int paragraphValue(int p, int property) {
            int own = paragraphs.ownValue(p, property);
            return own != NONE ? own : styleValue(paragraphs.base[p], property);
        }

        /** The look of style s, or of the ground if s is NONE. */
        int styleLook(int s) {
            int look = 0;
            for (int property = 0; property < PROPERTIES; property++) {
                look |= Values.asPartOfLook(property, styleValue(s, property));
            }
            return look;
        }

        int paragraphLook(int p) {
            int look = 0;
            for (int property = 0; property < PROPERTIES; property++) {
                look |= Values.asPartOfLook(property, paragraphValue(p, property));
            }
            return look;
        }

        int ancestors(int s) {
            int number = 0;
            int at = styles.base[s];
            for (int step = 0; step < MOST_STYLES && at != NONE; step++) {
                number++;
                at = styles.base[at];
            }
            return number;
        }

        /** Whether t is s or a descendant of s; t may be NONE. */
        boolean descends(int t, int s) {
            int at = t;
            for (int step = 0; step < MOST_STYLES && at != NONE; step++) {
                if (at == s) {
                    return true;
                }
                at = styles.base[at];
            }
            return false;
        }

        int styleCost(int s) {
            return headCost + (styles.base[s] == NONE ? 0 : PARENT_COST) + styles.ownBits(s);
        }

        int paragraphCost(int p) {
            return (paragraphs.base[p] == NONE ? 0 : STYLE_COST) + paragraphs.ownBits(p);
        }

        int costOfAll() {
            int sum = 0;
            for (int s = 0; s < styles.count; s++) {
                sum += styleCost(s);
            }
            for (int p = 0; p < paragraphs.count; p++) {
                sum += paragraphCost(p);
            }
            return sum;
        }

        int unusedStyles() {
            int set = 0;
            for (int s = 0; s < styles.count; s++) {
                if (styles.withBase(s) == 0 && paragraphs.withBase(s) == 0) {
                    set |= 1 << s;
                }
            }
            return set;
        }

        /** Counts the redundant values; they can go at once, as none of them is missed in any look. */
        int countRedundant(boolean remove) {
            return redundantIn(styles, remove) + redundantIn(paragraphs, remove);
        }

        private int redundantIn(Rows rows, boolean remove) {
            int number = 0;
            for (int row = 0; row < rows.count; row++) {
                for (int property = 0; property < PROPERTIES; property++) {
                    int v = rows.ownValue(row, property);
                    if (v != NONE && v == styleValue(rows.base[row], property)) {
                        number++;
                        rows.changeOwn(row, property, remove ? NONE : v);
                    }
                }
            }
            return number;
        }

        /** What a paragraph of this look costs with style s, or with none if s is NONE. */
        int costWithStyle(int look, int s) {
            return (s == NONE ? 0 : STYLE_COST) + Values.bitsApart(look, styleLook(s));
        }

        int nearestStyle(int look) {
            int nearest = NONE;
            int least = costWithStyle(look, NONE);
            for (int s = 0; s < styles.count; s++) {
                int cost = costWithStyle(look, s);
                if (cost < least) {
                    least = cost;
                    nearest = s;
                }
            }
            return nearest;
        }

        void rebaseStyle(int s, int t) {
            styles.rest(s, t, styleLook(s), styleLook(t));
        }

        void rebaseParagraph(int p, int s) {
            paragraphs.rest(p, s, paragraphLook(p), styleLook(s));
        }

        void removeStyle(int gone) {
            int heir = styles.base[gone];
            for (int s = 0; s < styles.count; s++) {
                if (styles.base[s] == gone) {
                    rebaseStyle(s, heir);
                }
            }
            for (int p = 0; p < paragraphs.count; p++) {
                if (paragraphs.base[p] == gone) {
                    rebaseParagraph(p, heir);
                }
            }
            styles.remove(gone);
            styles.renumberBases(gone);
            paragraphs.renumberBases(gone);
        }

        /** Gives the styles the looks and parents of the forest, which has a look for each of them. */
        void layStyles(Forest forest) {
            for (int s = 0; s < styles.count; s++) {
                // Half of the parents are old ones meanwhile: only the forest knows the looks.
                styles.rest(s, forest.parents[s], forest.look[s], forest.parentLook(s));
            }
        }

        /** Puts styles with the looks and parents of the forest in place of all others. */
        void replaceStyles(Forest forest) {
            for (int p = 0; p < paragraphs.count; p++) {
                rebaseParagraph(p, NONE);
            }
            styles.count = 0;
            for (int s = 0; s < forest.count && styles.hasRoom(); s++) {
                styles.append();
            }
            layStyles(forest);
            for (int p = 0; p < paragraphs.count; p++) {
                rebaseParagraph(p, nearestStyle(paragraphLook(p)));
            }
        }
    }

    /** The looks of the paragraphs, each once, in order, and how many paragraphs have each. */
    private static final class Looks {
        int count = 0;
        final int[] look = new int[MOST_LOOKS];
        final int[] wearers = new int[MOST_LOOKS];

        boolean holds(int l) {
            return l >= 0 && l < count;
        }

        void gather(Sheet sheet) {
            count = 0;
            for (int p = 0; p < sheet.paragraphs.count; p++) {
                enter(sheet.paragraphLook(p));
            }
        }

        /** The number of the looks before this one, which is its own number if it is here. */
        int numberOf(int wanted) {
            int number = 0;
            while (number < count && look[number] < wanted) {
                number++;
            }
            return number;
        }

        private void enter(int wanted) {
            int at = numberOf(wanted);
            if (at == count || look[at] != wanted) {
                System.arraycopy(look, at, look, at + 1, count - at);
                System.arraycopy(wearers, at, wearers, at + 1, count - at);
                look[at] = wanted;
                wearers[at] = 0;
                count++;
            }
            wearers[at]++;
        }
    }

    /** What each of some looks costs at least if it can be described by a look of a set, or by the ground. */
    private static final class Reach {
        // Far above all costs; one for each look still adds up to less than ENDLESS.
        static final int FAR = 1000000;
        static final int ENDLESS = 1000 * FAR;

        final int[][] least = new int[MOST_LOOKS][1 << MOST_LOOKS];

        /** Fills the row of look i; link is what it costs to name the describing look. */
        void fill(int i, int[] look, int count, int groundLook, int link) {
            least[i][0] = Values.bitsApart(look[i], groundLook);
            for (int j = 0; j < count; j++) {
                int cost = link + Values.bitsApart(look[i], look[j]);
                int bit = 1 << j;
                for (int rest = 0; rest < bit; rest++) {
                    least[i][bit | rest] = Math.min(least[i][rest], cost);
                }
            }
        }

        /** Leaves look i one parent only, or none if t is NONE, at this cost. */
        void pin(int i, int count, int t, int cost) {
            for (int set = 0; set < 1 << count; set++) {
                boolean possible = t == NONE || (set >> t & 1) != 0;
                least[i][set] = possible ? cost : FAR;
            }
        }
    }

    /** The cheapest parents for styles of given looks; all costs here are without the head costs. */
    private static final class Forest {
        int count = 0;
        final int[] look = new int[MOST_LOOKS];
        final int[] parents = new int[MOST_LOOKS];
        private int groundLook = 0;
        private final Reach reach = new Reach();
        private final int[] sum = new int[1 << MOST_LOOKS];

        void begin(int newGroundLook) {
            count = 0;
            groundLook = newGroundLook;
        }

        void plant(int newLook) {
            if (count < MOST_LOOKS) {
                look[count] = newLook;
                count++;
            }
        }

        void layChosen(Looks looks, int set, int newGroundLook) {
            begin(newGroundLook);
            for (int l = 0; l < looks.count; l++) {
                if ((set >> l & 1) != 0) {
                    plant(looks.look[l]);
                }
            }
            grow();
        }

        void grow() {
            for (int i = 0; i < count; i++) {
                reach.fill(i, look, count, groundLook, PARENT_COST);
            }
            addUp();
        }

        /**
         * Finds the cheapest sum for every set of looks. In a set without cycles some look is
         * the parent of none, so it can come last, with a parent among the others or none.
         */
        private void addUp() {
            sum[0] = 0;
            for (int set = 1; set < 1 << count; set++) {
                int least = Reach.ENDLESS;
                for (int last = 0; last < count; last++) {
                    if ((set >> last & 1) != 0) {
                        int others = set ^ 1 << last;
                        least = Math.min(least, sum[others] + reach.least[last][others]);
                    }
                }
                sum[set] = least;
            }
        }

        int costOf(int set) {
            return sum[set];
        }

        int costOfAll() {
            return sum[(1 << count) - 1];
        }

        int parentLook(int i) {
            return parents[i] == NONE ? groundLook : look[parents[i]];
        }

        /** Pins the parents one after the other to the first that does not make all dearer. */
        void chooseParents() {
            int best = costOfAll();
            for (int i = 0; i < count; i++) {
                parents[i] = firstParent(i, best);
            }
        }

        private int firstParent(int i, int best) {
            for (int t = NONE; t < count; t++) {
                if (t != i) {
                    reach.pin(i, count, t, costWithParent(i, t));
                    addUp();
                    if (costOfAll() == best) {
                        return t;
                    }
                }
            }
            return NONE;
        }

        private int costWithParent(int i, int t) {
            return t == NONE
                ? Values.bitsApart(look[i], groundLook)
                : PARENT_COST + Values.bitsApart(look[i], look[t]);
        }
    }

    /** The cheapest set of styles for the looks that occur. */
    private static final class BestStyles {
        int set = 0;
        int cost = 0;
        private final Reach reach = new Reach();

        /** The forest has been laid for all these looks. */
        void find(Looks looks, Forest forest, int groundLook, int headCost) {
            for (int l = 0; l < looks.count; l++) {
                reach.fill(l, looks.look, looks.count, groundLook, STYLE_COST);
            }
            set = 0;
            cost = paragraphCosts(looks, 0);
            for (int other = 1; other < 1 << looks.count; other++) {
                int number = Integer.bitCount(other);
                if (number <= MOST_STYLES) {
                    compare(other, number * headCost + forest.costOf(other) + paragraphCosts(looks, other));
                }
            }
        }

        /** The sets come in ascending order, so of equals with as many looks the first one stays. */
        private void compare(int other, int otherCost) {
            boolean fewer = Integer.bitCount(other) < Integer.bitCount(set);
            if (otherCost < cost || otherCost == cost && fewer) {
                set = other;
                cost = otherCost;
            }
        }

        private int paragraphCosts(Looks looks, int styles) {
            int sum = 0;
            for (int l = 0; l < looks.count; l++) {
                sum += looks.wearers[l] * reach.least[l][styles];
            }
            return sum;
        }
    }

    /** The sheets before the latest deeds, in a ring. */
    private static final class History {
        int count = 0;
        private int next = 0;
        private final Sheet[] before = new Sheet[MOST_DEEDS];

        History() {
            for (int i = 0; i < MOST_DEEDS; i++) {
                before[i] = new Sheet();
            }
        }

        void remember(Sheet sheet) {
            before[next].copyFrom(sheet);
            next = (next + 1) % MOST_DEEDS;
            count = Math.min(count + 1, MOST_DEEDS);
        }

        /** Undoes n deeds; the caller has compared n with the count. */
        void restore(Sheet sheet, int n) {
            next = (next + MOST_DEEDS - n) % MOST_DEEDS;
            count -= n;
            sheet.copyFrom(before[next]);
        }

        void forget() {
            count = 0;
        }
    }

    /** Expected values; the entries name paragraphs by number, so they stay when paragraphs move. */
    private static final class Book {
        int count = 0;
        private final int[] paragraphs = new int[MOST_ENTRIES];
        private final int[] properties = new int[MOST_ENTRIES];
        private final int[] values = new int[MOST_ENTRIES];

        boolean hasRoom() {
            return count < MOST_ENTRIES;
        }

        void append(int p, int property, int v) {
            paragraphs[count] = p;
            properties[count] = property;
            values[count] = v;
            count++;
        }

        int clear() {
            int before = count;
            count = 0;
            return before;
        }

        int firstWrong(Sheet sheet) {
            for (int i = 0; i < count; i++) {
                int p = paragraphs[i];
                if (!sheet.paragraphs.holds(p) || sheet.paragraphValue(p, properties[i]) != values[i]) {
                    return i;
                }
            }
            return NONE;
        }
    }

    /** What keep keeps. */
    private static final class Image {
        boolean filled = false;
        int random = 0;
        final Sheet sheet = new Sheet();
    }
}
