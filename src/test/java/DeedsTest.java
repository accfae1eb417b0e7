/** Promises 10 to 27: the deeds, drift and undo. */
public final class DeedsTest {
    private static final int NONE = -1, UNKNOWN = -1000000001, OUTSIDE = -1000000002, NOT = -1000000003, FULL = -1000000004;

    private final Due due = new Due();

    public static void main(String[] args) {
        DeedsTest test = new DeedsTest();
        test.promises10And11();
        test.promise12();
        test.promise13();
        test.promises14And15();
        test.promise16();
        test.promise17();
        test.promise18();
        test.promise19();
        test.promise20();
        test.promise20Numbers();
        test.promise21();
        test.promise22();
        test.promise23();
        test.promise24();
        test.promise25();
        test.promise25Nearest();
        test.promise25Unasked();
        test.everythingFull();
        test.promise26();
        test.promise27();
        test.promise27EveryDeed();
        test.errorsChangeNothing();
        test.due.end();
    }

    private static StyleFamilies with(int styles, int paragraphs) {
        StyleFamilies x = new StyleFamilies();
        for (int s = 0; s < styles; s++) {
            x.style();
        }
        for (int p = 0; p < paragraphs; p++) {
            x.paragraph();
        }
        return x;
    }

    private void looks(String what, StyleFamilies x, int p, int... want) {
        for (int property = 0; property < 6; property++) {
            due.is(what + ", paragraph " + p + ", property " + property, x.has(p, property), want[property]);
        }
    }

    private void styleLooks(String what, StyleFamilies x, int s, int... want) {
        for (int property = 0; property < 6; property++) {
            due.is(what + ", style " + s + ", property " + property, x.styleHas(s, property), want[property]);
        }
    }

    private void promises10And11() {
        StyleFamilies x = new StyleFamilies();
        for (int p = 0; p < 8; p++) {
            due.is("10: paragraph()", x.paragraph(), p);
            due.is("10: without a style", x.paragraphAt(p, 0), NONE);
            due.is("10: nothing given", x.paragraphAt(p, 5), 0);
        }
        due.is("10: a ninth", x.paragraph(), FULL);
        due.is("10: deeds", x.told(12), 8);
        for (int s = 0; s < 6; s++) {
            due.is("11: style()", x.style(), s);
            due.is("11: without a parent", x.styleAt(s, 0), NONE);
            due.is("11: nothing set", x.styleAt(s, 5), 0);
        }
        due.is("11: a seventh", x.style(), FULL);
        due.is("11: deeds", x.told(12), 14);
        x.sets(5, 3, 9);
        x.drop(5);
        due.is("11: the place of another", x.style(), 5);
        due.is("11: nothing set there", x.styleAt(5, 5), 0);
        x.direct(7, 3, 9);
        x.apply(7, 0);
        x.take(7);
        due.is("10: the place of another", x.paragraph(), 7);
        due.is("10: nothing given there", x.paragraphAt(7, 5), 0);
        due.is("10: without its style", x.paragraphAt(7, 0), NONE);
    }

    private void promise12() {
        StyleFamilies x = with(0, 2);
        due.is("12: first", x.direct(1, 2, 99), NONE);
        due.is("12: again", x.direct(1, 2, 0), 99);
        due.is("12: not any more", x.direct(1, 2, NONE), 0);
        due.is("12: nothing", x.direct(1, 2, NONE), NONE);
        due.is("12: deeds", x.told(12), 6);
        x.direct(1, 4, 9);
        due.is("12: the other one", x.paragraphAt(0, 5), 0);
        due.is("12: this one", x.paragraphAt(1, 5), 16);
        due.is("12: no such paragraph", x.direct(2, 0, 0), UNKNOWN);
        due.is("12: no such paragraph", x.direct(-1, 0, 0), UNKNOWN);
        due.is("12: no such property", x.direct(0, 6, 0), UNKNOWN);
        due.is("12: no such property", x.direct(0, -1, 0), UNKNOWN);
        due.is("12: UNKNOWN comes first", x.direct(0, 6, -2), UNKNOWN);
        int[] tops = {1, 1, 99, 99, 9, 9};
        for (int property = 0; property < 6; property++) {
            due.is("12: too large", x.direct(0, property, tops[property] + 1), OUTSIDE);
            due.is("12: too small", x.direct(0, property, -2), OUTSIDE);
            due.is("12: the largest", x.direct(0, property, tops[property]), NONE);
        }
    }

    private void promise13() {
        StyleFamilies x = with(2, 0);
        due.is("13: first", x.sets(1, 2, 99), NONE);
        due.is("13: again", x.sets(1, 2, 0), 99);
        due.is("13: a value that is nothing new is set too", x.styleAt(1, 5), 4);
        due.is("13: not any more", x.sets(1, 2, NONE), 0);
        due.is("13: nothing", x.sets(1, 2, NONE), NONE);
        due.is("13: deeds", x.told(12), 6);
        due.is("13: no such style", x.sets(2, 0, 0), UNKNOWN);
        due.is("13: no such style", x.sets(-1, 0, 0), UNKNOWN);
        due.is("13: no such property", x.sets(0, 6, 0), UNKNOWN);
        due.is("13: no such property", x.sets(0, -1, 0), UNKNOWN);
        due.is("13: UNKNOWN comes first", x.sets(2, 0, -2), UNKNOWN);
        int[] tops = {1, 1, 99, 99, 9, 9};
        for (int property = 0; property < 6; property++) {
            due.is("13: too large", x.sets(0, property, tops[property] + 1), OUTSIDE);
            due.is("13: too small", x.sets(0, property, -2), OUTSIDE);
            due.is("13: the largest", x.sets(0, property, tops[property]), NONE);
        }
    }

    private void promises14And15() {
        StyleFamilies x = with(0, 1);
        due.is("14: first", x.ground(3, 99), 0);
        due.is("14: again", x.ground(3, 7), 99);
        due.is("14: a paragraph has it", x.has(0, 3), 7);
        due.is("14: NONE is no value", x.ground(3, NONE), OUTSIDE);
        due.is("14: too large", x.ground(3, 100), OUTSIDE);
        due.is("14: too large", x.ground(0, 2), OUTSIDE);
        due.is("14: too large", x.ground(5, 10), OUTSIDE);
        due.is("14: no such property", x.ground(6, 0), UNKNOWN);
        due.is("14: no such property", x.ground(-1, 0), UNKNOWN);
        due.is("14: UNKNOWN comes first", x.ground(6, 1000), UNKNOWN);
        due.is("15: first", x.head(1), 6);
        due.is("15: again", x.head(20), 1);
        due.is("15: the same", x.head(20), 20);
        due.is("15: too small", x.head(0), OUTSIDE);
        due.is("15: too large", x.head(21), OUTSIDE);
        due.is("15: too small", x.head(Integer.MIN_VALUE), OUTSIDE);
        due.is("15: as it was", x.told(9), 20);
        due.is("14, 15: deeds", x.told(12), 6);
    }

    private void promise16() {
        StyleFamilies x = with(2, 2);
        x.sets(0, 0, 1);
        x.sets(1, 2, 5);
        x.direct(0, 4, 4);
        due.is("16: had none", x.apply(0, 1), NONE);
        looks("16: applied", x, 0, 0, 0, 5, 0, 4, 0);
        due.is("16: had 1", x.apply(0, 0), 1);
        looks("16: applied", x, 0, 1, 0, 0, 0, 4, 0);
        due.is("16: had 0", x.apply(0, NONE), 0);
        looks("16: without", x, 0, 0, 0, 0, 0, 4, 0);
        due.is("16: what is given stays", x.paragraphAt(0, 5), 16);
        due.is("16: deeds", x.told(12), 10);
        due.is("16: no such paragraph", x.apply(2, 0), UNKNOWN);
        due.is("16: no such paragraph", x.apply(NONE, 0), UNKNOWN);
        due.is("16: no such style", x.apply(0, 2), UNKNOWN);
        due.is("16: no such style", x.apply(0, -2), UNKNOWN);
    }

    private void promise17() {
        StyleFamilies x = with(4, 0);
        x.sets(0, 2, 50);
        x.sets(1, 2, 60);
        x.sets(2, 3, 1);
        due.is("17: had none", x.parent(2, 0), NONE);
        styleLooks("17: below 0", x, 2, 0, 0, 50, 1, 0, 0);
        due.is("17: had 0", x.parent(2, 1), 0);
        styleLooks("17: below 1", x, 2, 0, 0, 60, 1, 0, 0);
        due.is("17: what it sets stays", x.styleAt(2, 5), 8);
        x.parent(3, 2);
        due.is("17: itself", x.parent(1, 1), NOT);
        due.is("17: a child", x.parent(1, 2), NOT);
        due.is("17: a grandchild", x.parent(1, 3), NOT);
        due.is("17: an ancestor again", x.parent(3, 1), 2);
        due.is("17: no descendant any more", x.parent(2, 3), 1);
        due.is("17: none", x.parent(3, NONE), 1);
        due.is("17: no such style", x.parent(4, 0), UNKNOWN);
        due.is("17: no such style", x.parent(NONE, 0), UNKNOWN);
        due.is("17: no such parent", x.parent(0, 4), UNKNOWN);
        due.is("17: no such parent", x.parent(0, -2), UNKNOWN);
        due.is("17: UNKNOWN comes first", x.parent(4, 4), UNKNOWN);
        due.is("17: deeds", x.told(12), 13);
    }

    private void promise18() {
        StyleFamilies x = with(1, 1);
        x.sets(0, 2, 40);
        x.sets(0, 0, 1);
        x.direct(0, 2, 40);
        x.direct(0, 1, 0);
        due.is("18: cost with the style", x.restyle(0, 0), 1 + 2);
        looks("18: kept", x, 0, 0, 0, 40, 0, 0, 0);
        due.is("18: exactly what is different is given", x.paragraphAt(0, 5), 1);
        due.is("18: the style", x.paragraphAt(0, 0), 0);
        due.is("18: cost without", x.restyle(0, NONE), 5);
        looks("18: kept", x, 0, 0, 0, 40, 0, 0, 0);
        due.is("18: exactly what is different is given", x.paragraphAt(0, 5), 4);
        x.direct(0, 5, 0);
        due.is("18: the same style anew", x.restyle(0, NONE), 5);
        due.is("18: deeds", x.told(12), 10);
        due.is("18: no such paragraph", x.restyle(1, 0), UNKNOWN);
        due.is("18: no such style", x.restyle(0, 1), UNKNOWN);
        due.is("18: no such style", x.restyle(0, -2), UNKNOWN);
    }

    private void promise19() {
        StyleFamilies x = with(3, 0);
        x.sets(0, 2, 40);
        x.sets(0, 0, 1);
        x.sets(1, 2, 40);
        x.sets(1, 1, 0);
        x.parent(2, 1);
        x.sets(2, 5, 3);
        due.is("19: cost below 0", x.reparent(1, 0), 6 + 2 + 2);
        styleLooks("19: kept", x, 1, 0, 0, 40, 0, 0, 0);
        styleLooks("19: its child", x, 2, 0, 0, 40, 0, 0, 3);
        due.is("19: exactly what is different is set", x.styleAt(1, 5), 1);
        due.is("19: the parent", x.styleAt(1, 0), 0);
        due.is("19: itself", x.reparent(1, 1), NOT);
        due.is("19: a child", x.reparent(0, 1), NOT);
        due.is("19: a grandchild", x.reparent(0, 2), NOT);
        due.is("19: cost without", x.reparent(1, NONE), 6 + 5);
        due.is("19: exactly what is different is set", x.styleAt(1, 5), 4);
        due.is("19: no such style", x.reparent(3, 0), UNKNOWN);
        due.is("19: no such parent", x.reparent(0, 3), UNKNOWN);
        due.is("19: no such parent", x.reparent(0, -2), UNKNOWN);
        due.is("19: UNKNOWN comes first", x.reparent(3, 3), UNKNOWN);
        due.is("19: deeds", x.told(12), 11);
    }

    /** Style 1 goes: style 2 and paragraph 0 get style 0 instead. */
    private void promise20() {
        StyleFamilies x = with(3, 2);
        x.parent(1, 0);
        x.parent(2, 1);
        x.sets(0, 2, 40);
        x.sets(0, 3, 30);
        x.sets(1, 2, 41);
        x.sets(1, 4, 8);
        x.sets(2, 3, 30);
        x.sets(2, 4, 0);
        x.apply(0, 1);
        x.direct(0, 2, 40);
        x.apply(1, 2);
        due.is("20: styles left", x.drop(1), 2);
        styleLooks("20: kept", x, 1, 0, 0, 41, 30, 0, 0);
        looks("20: kept", x, 0, 0, 0, 40, 30, 8, 0);
        looks("20: kept", x, 1, 0, 0, 41, 30, 0, 0);
        due.is("20: the parent's parent", x.styleAt(1, 0), 0);
        due.is("20: exactly what is different", x.styleAt(1, 5), 4);
        due.is("20: the style's parent", x.paragraphAt(0, 0), 0);
        due.is("20: exactly what is different", x.paragraphAt(0, 5), 16);
        due.is("20: the number has followed", x.paragraphAt(1, 0), 1);
        due.is("20: the last but one", x.drop(0), 1);
        due.is("20: none instead", x.styleAt(0, 0), NONE);
        due.is("20: none instead", x.paragraphAt(0, 0), NONE);
        looks("20: kept", x, 0, 0, 0, 40, 30, 8, 0);
        styleLooks("20: kept", x, 0, 0, 0, 41, 30, 0, 0);
        due.is("20: the last", x.drop(0), 0);
        looks("20: kept", x, 1, 0, 0, 41, 30, 0, 0);
        due.is("20: no such style", x.drop(0), UNKNOWN);
        due.is("20: no such style", x.drop(NONE), UNKNOWN);
    }

    private void promise20Numbers() {
        StyleFamilies x = with(6, 1);
        for (int s = 0; s < 6; s++) {
            x.sets(s, 2, 20 + s);
        }
        x.parent(1, 5);
        x.parent(5, 4);
        x.apply(0, 5);
        x.direct(0, 5, 0);
        due.is("20: a style of its own", x.drop(2), 5);
        for (int s = 0; s < 5; s++) {
            due.is("20: style " + s, x.styleHas(s, 2), s < 2 ? 20 + s : 21 + s);
        }
        due.is("20: parent of 1", x.styleAt(1, 0), 4);
        due.is("20: parent of 4", x.styleAt(4, 0), 3);
        due.is("20: parent of 0", x.styleAt(0, 0), NONE);
        due.is("20: style of 0", x.paragraphAt(0, 0), 4);
        due.is("20: what others give stays", x.paragraphAt(0, 5), 32);
        due.is("20: deeds", x.told(12), 16);
    }

    private void promise21() {
        StyleFamilies x = with(2, 8);
        for (int p = 0; p < 8; p++) {
            x.direct(p, 2, p);
        }
        x.apply(7, 1);
        x.apply(2, 0);
        due.is("21: left", x.take(2), 7);
        for (int p = 0; p < 7; p++) {
            due.is("21: paragraph " + p, x.has(p, 2), p < 2 ? p : p + 1);
        }
        due.is("21: its style", x.paragraphAt(6, 0), 1);
        due.is("21: none has it", x.styleAt(0, 3), 0);
        due.is("21: gone", x.has(7, 2), UNKNOWN);
        due.is("21: the last", x.take(6), 6);
        due.is("21: no such paragraph", x.take(6), UNKNOWN);
        due.is("21: no such paragraph", x.take(-1), UNKNOWN);
        due.is("21: deeds", x.told(12), 16);
    }

    private void promise22() {
        StyleFamilies x = with(1, 3);
        x.sets(0, 4, 4);
        x.apply(0, 0);
        x.direct(1, 4, 4);
        x.direct(2, 0, 1);
        due.is("22: equal looks", x.swap(0, 1), 0);
        due.is("22: the style has moved", x.paragraphAt(1, 0), 0);
        due.is("22: the style has moved", x.paragraphAt(0, 0), NONE);
        due.is("22: what is given has moved", x.paragraphAt(0, 5), 16);
        due.is("22: what is given has moved", x.paragraphAt(1, 5), 0);
        due.is("22: different looks", x.swap(2, 1), 1);
        due.is("22: the style has moved", x.paragraphAt(2, 0), 0);
        looks("22: exchanged", x, 1, 1, 0, 0, 0, 0, 0);
        due.is("22: the same", x.swap(1, 1), 0);
        looks("22: the same", x, 1, 1, 0, 0, 0, 0, 0);
        due.is("22: deeds", x.told(12), 11);
        due.is("22: no such paragraph", x.swap(3, 0), UNKNOWN);
        due.is("22: no such paragraph", x.swap(0, 3), UNKNOWN);
        due.is("22: no such paragraph", x.swap(-1, -1), UNKNOWN);
    }

    private void promise23() {
        StyleFamilies x = with(2, 2);
        x.parent(1, 0);
        x.sets(0, 2, 0);
        x.sets(0, 3, 3);
        x.sets(1, 2, 0);
        x.sets(1, 3, 4);
        x.apply(0, 1);
        x.direct(0, 3, 3);
        x.direct(0, 2, 0);
        x.direct(1, 5, 0);
        due.is("23: redundant values", x.told(3), 4);
        due.is("23: how many there were", x.tidy(), 4);
        due.is("23: none is left", x.told(3), 0);
        due.is("23: style 0", x.styleAt(0, 5), 8);
        due.is("23: style 1", x.styleAt(1, 5), 8);
        due.is("23: paragraph 0", x.paragraphAt(0, 5), 8);
        due.is("23: paragraph 1", x.paragraphAt(1, 5), 0);
        looks("23: kept", x, 0, 0, 0, 0, 3, 0, 0);
        due.is("23: again", x.tidy(), 0);
        due.is("23: deeds", x.told(12), 15);
    }

    private void promise24() {
        StyleFamilies x = with(3, 1);
        // Looks: 0 is (2: 40, 3: 40, 0: 1), 1 is (2: 40, 3: 40), 2 is (2: 40, 3: 40, 5: 9).
        x.sets(1, 2, 40);
        x.sets(1, 3, 40);
        x.parent(1, 0);
        x.sets(0, 2, 40);
        x.sets(0, 3, 40);
        x.sets(0, 0, 1);
        x.sets(1, 0, 0);
        x.parent(2, 1);
        x.sets(2, 5, 9);
        x.apply(0, 2);
        due.is("24: before", x.told(2), 18 + 20 + 15 + 1);
        due.is("24: cost of everything", x.knit(), 10 + 16 + 15 + 1);
        due.is("24: parent of 0", x.styleAt(0, 0), 1);
        due.is("24: parent of 1", x.styleAt(1, 0), NONE);
        due.is("24: parent of 2", x.styleAt(2, 0), 1);
        styleLooks("24: kept", x, 0, 1, 0, 40, 40, 0, 0);
        styleLooks("24: kept", x, 1, 0, 0, 40, 40, 0, 0);
        styleLooks("24: kept", x, 2, 0, 0, 40, 40, 0, 9);
        looks("24: kept", x, 0, 0, 0, 40, 40, 0, 9);
        due.is("24: exactly what is different", x.styleAt(0, 5), 1);
        due.is("24: exactly what is different", x.styleAt(1, 5), 12);
        due.is("24: exactly what is different", x.styleAt(2, 5), 32);
        due.is("24: nothing better", x.knit(), 42);
        due.is("24: deeds", x.told(12), 16);
        due.is("24: undone", x.undo(2), 14);
        due.is("24: parent of 1 before", x.styleAt(1, 0), 0);
    }

    /** Six paragraphs of three looks that have much in common: two styles, one below the other. */
    private void promise25() {
        StyleFamilies x = with(2, 6);
        x.sets(1, 1, 1);
        x.apply(5, 1);
        for (int p = 0; p < 6; p++) {
            x.direct(p, 2, 40);
            x.direct(p, 3, 40);
        }
        for (int p = 0; p < 2; p++) {
            x.direct(p, 4, 9);
            x.direct(p, 5, 9);
        }
        x.head(1);
        // Looks: 0 is (2: 40, 3: 40), of 2 to 4; 1 is that with both names; 2 is (1: 1, 2: 40, 3: 40), of 5.
        due.is("25: looks", x.told(4), 3);
        due.is("25: the cost that is told", x.told(6), 11 + 17 + 1 + 1 + 3 + 3);
        due.is("25: the set that is told", x.told(7), 3);
        due.is("25: cost of everything", x.adopt(), 36);
        due.is("25: styles", x.told(1), 2);
        styleLooks("25: in the order of the looks", x, 0, 0, 0, 40, 40, 0, 0);
        styleLooks("25: in the order of the looks", x, 1, 0, 0, 40, 40, 9, 9);
        due.is("25: parent of 0", x.styleAt(0, 0), NONE);
        due.is("25: parent of 1", x.styleAt(1, 0), 0);
        due.is("25: exactly what is different", x.styleAt(1, 5), 48);
        int[] styles = {1, 1, 0, 0, 0, 0};
        int[] given = {0, 0, 0, 0, 0, 2};
        for (int p = 0; p < 6; p++) {
            due.is("25: style of " + p, x.paragraphAt(p, 0), styles[p]);
            due.is("25: given for " + p, x.paragraphAt(p, 5), given[p]);
        }
        looks("25: kept", x, 1, 0, 0, 40, 40, 9, 9);
        looks("25: kept", x, 5, 0, 1, 40, 40, 0, 0);
        due.is("25: nothing better", x.adopt(), 36);
    }

    private void promise25Nearest() {
        StyleFamilies x = with(3, 1);
        x.apply(0, 2);
        x.sets(2, 2, 40);
        due.is("25: no style pays", x.adopt(), 5);
        due.is("25: no style is left", x.told(1), 0);
        due.is("25: no style", x.paragraphAt(0, 0), NONE);
        due.is("25: given directly", x.paragraphAt(0, 5), 4);
        due.is("25: undone", x.undo(1), 6);
        due.is("25: the styles are back", x.told(1), 3);
        due.is("25: its style is back", x.paragraphAt(0, 0), 2);
        StyleFamilies y = with(6, 0);
        due.is("25: without paragraphs", y.adopt(), 0);
        due.is("25: without paragraphs", y.told(1), 0);
    }

    /** No call has told of the best styles before. */
    private void promise25Unasked() {
        StyleFamilies x = with(1, 3);
        x.sets(0, 2, 40);
        x.sets(0, 3, 40);
        for (int p = 0; p < 3; p++) {
            x.apply(p, 0);
        }
        x.sets(0, 4, 9);
        due.is("25: one style for all", x.adopt(), 6 + 17 + 3);
        for (int p = 0; p < 3; p++) {
            looks("25: kept", x, p, 0, 0, 40, 40, 9, 0);
        }
        due.is("25: the style", x.styleAt(0, 5), 28);
        // The number of the style that goes is that of the style that comes.
        StyleFamilies y = with(1, 3);
        y.sets(0, 1, 1);
        y.apply(0, 0);
        for (int p = 1; p < 3; p++) {
            y.direct(p, 2, 40);
            y.direct(p, 3, 40);
            y.direct(p, 4, 9);
        }
        due.is("25: one style for two", y.adopt(), 6 + 17 + 2 + 2);
        looks("25: kept", y, 0, 0, 1, 0, 0, 0, 0);
        looks("25: kept", y, 2, 0, 0, 40, 40, 9, 0);
        due.is("25: without a style", y.paragraphAt(0, 0), NONE);
    }

    /** Six styles and eight paragraphs of different looks: no place is left over anywhere. */
    private void everythingFull() {
        StyleFamilies x = with(6, 8);
        for (int s = 0; s < 6; s++) {
            x.sets(s, 2, 90 + s);
        }
        for (int p = 0; p < 8; p++) {
            x.direct(p, 2, 90 + p);
            x.direct(p, 3, 10 + p);
        }
        x.keep(0);
        due.is("full: looks", x.told(4), 8);
        due.is("full: the last look", x.paragraphAt(7, 4), 7);
        due.is("full: no style pays", x.told(6), 80);
        due.is("full: knit", x.knit(), 6 * 11 + 80);
        due.is("full: tidy", x.tidy(), 0);
        due.is("full: nearest", x.paragraphAt(5, 2), 5);
        due.is("full: cost with it", x.paragraphAt(5, 3), 6);
        x.parent(0, 5);
        x.apply(0, 5);
        due.is("full: the last goes", x.drop(5), 5);
        due.is("full: its first child", x.styleAt(0, 0), NONE);
        due.is("full: its first paragraph", x.paragraphAt(0, 0), NONE);
        due.is("full: the first goes", x.take(0), 7);
        x.goBack(0);
        due.is("full: adopt", x.adopt(), 80);
        due.is("full: adopted", x.told(1), 0);
        due.is("full: the last goes", x.take(7), 7);
    }

    private void promise26() {
        StyleFamilies x = new StyleFamilies();
        due.is("26: one", x.drift(1), 1);
        due.is("26: a deed each", x.told(12), 1);
        due.is("26: some more", x.drift(3), 4);
        due.is("26: a deed each", x.told(12), 4);
        due.is("26: at most 8", x.drift(8), 8);
        due.is("26: a deed each", x.told(12), 8);
        int random = x.told(13);
        due.is("26: none", x.drift(1), 8);
        due.is("26: no deed", x.told(12), 8);
        due.is("26: no number drawn", x.told(13), random);
        drawnAgain(x, 0);
        due.is("26: too few", x.drift(0), OUTSIDE);
        due.is("26: too many", x.drift(9), OUTSIDE);
        due.is("26: too few", x.drift(-1), OUTSIDE);
        x.undo(3);
        due.is("26: what is undone", x.told(0), 5);
        due.is("26: the random number stays", x.told(13), random);
        StyleFamilies y = new StyleFamilies();
        y.seed(Integer.MAX_VALUE);
        y.drift(8);
        drawnAgain(y, Integer.MAX_VALUE);
    }

    /** Draws the numbers of eight paragraphs once more, with long arithmetic. */
    private void drawnAgain(StyleFamilies x, long seed) {
        long[] random = {seed};
        for (int p = 0; p < 8; p++) {
            due.is("26: no style", x.paragraphAt(p, 0), NONE);
            for (int property = 0; property < 6; property++) {
                int want = NONE;
                if (draw(random, 3) != 0) {
                    want = property < 2 ? draw(random, 2) : property < 4 ? 5 * draw(random, 3) : 2 * draw(random, 3);
                }
                due.is("26: from " + p + ", " + property, x.from(p, property), want == NONE ? 0 : 1);
                due.is("26: has " + p + ", " + property, x.has(p, property), Math.max(want, 0));
            }
        }
        due.is("26: the random number after that", x.told(13), random[0]);
    }

    private static int draw(long[] random, int below) {
        random[0] = (random[0] * 1103515245L + 12345L) % 2147483648L;
        return (int) (random[0] / 65536L % below);
    }

    private void promise27() {
        StyleFamilies x = with(0, 1);
        for (int v = 0; v < 20; v++) {
            x.direct(0, 2, v);
        }
        due.is("27: too few", x.undo(0), OUTSIDE);
        due.is("27: too many", x.undo(17), OUTSIDE);
        due.is("27: too few", x.undo(-1), OUTSIDE);
        due.is("27: one", x.undo(1), 15);
        due.is("27: one", x.has(0, 2), 18);
        due.is("27: OUTSIDE comes first", x.undo(17), OUTSIDE);
        due.is("27: more than there are", x.undo(16), NOT);
        due.is("27: four", x.undo(4), 11);
        due.is("27: four", x.has(0, 2), 14);
        x.direct(0, 2, 77);
        due.is("27: a deed after that", x.told(12), 12);
        due.is("27: all", x.undo(12), 0);
        due.is("27: all", x.has(0, 2), 3);
        due.is("27: nothing is left", x.undo(1), NOT);
        StyleFamilies y = new StyleFamilies();
        due.is("27: nothing at first", y.undo(1), NOT);
        y.seed(9);
        y.paragraph();
        y.write(0, 0, 0);
        y.drift(1);
        int random = y.told(13);
        due.is("27: the random number and the book are no deeds", y.undo(2), 0);
        due.is("27: the random number stays", y.told(13), random);
        due.is("27: the book stays", y.told(10), 1);
        due.is("27: its entry is wrong now", y.told(11), 0);
    }

    /** Each deed counts once, also if nothing becomes different, and goes back whole. */
    private void promise27EveryDeed() {
        for (int deed = 0; deed < 16; deed++) {
            StyleFamilies x = withLooks();
            int before = print(x);
            callDeed(x, deed);
            due.is("27: deed " + deed + " counts", x.told(12), 1);
            due.is("27: deed " + deed + " is undone", x.undo(1), 0);
            due.is("27: all as before deed " + deed, print(x), before);
        }
        StyleFamilies x = withLooks();
        x.head(6);
        x.ground(0, 0);
        x.direct(0, 2, 40);
        x.sets(0, 2, 40);
        x.apply(1, 1);
        x.parent(1, 0);
        x.swap(0, 0);
        due.is("27: deeds that make nothing different", x.told(12), 7);
    }

    private static StyleFamilies withLooks() {
        StyleFamilies x = with(2, 2);
        x.sets(0, 2, 40);
        x.sets(1, 2, 40);
        x.direct(0, 2, 40);
        x.parent(1, 0);
        x.apply(1, 1);
        x.keep(0);
        return x;
    }

    private static void callDeed(StyleFamilies x, int deed) {
        switch (deed) {
            case 0: x.paragraph(); break;
            case 1: x.style(); break;
            case 2: x.direct(0, 3, 9); break;
            case 3: x.sets(0, 3, 9); break;
            case 4: x.ground(3, 9); break;
            case 5: x.head(9); break;
            case 6: x.apply(0, 1); break;
            case 7: x.parent(1, NONE); break;
            case 8: x.restyle(0, 0); break;
            case 9: x.reparent(1, NONE); break;
            case 10: x.drop(0); break;
            case 11: x.take(0); break;
            case 12: x.swap(0, 1); break;
            case 13: x.tidy(); break;
            case 14: x.knit(); break;
            default: x.adopt(); break;
        }
    }

    /** One number for all that can be seen of styles, paragraphs, ground and head cost. */
    private static int print(StyleFamilies x) {
        int paragraphs = x.told(0);
        int styles = x.told(1);
        int print = paragraphs * 31 + styles * 37 + x.told(9);
        for (int property = 0; property < 6; property++) {
            print = print * 31 + x.styleHas(NONE, property);
            for (int s = 0; s < styles; s++) {
                print = print * 31 + x.styleHas(s, property);
            }
            for (int p = 0; p < paragraphs; p++) {
                print = print * 31 + x.has(p, property);
            }
        }
        for (int s = 0; s < styles; s++) {
            print = (print * 31 + x.styleAt(s, 0)) * 31 + x.styleAt(s, 5);
        }
        for (int p = 0; p < paragraphs; p++) {
            print = (print * 31 + x.paragraphAt(p, 0)) * 31 + x.paragraphAt(p, 5);
        }
        return print;
    }

    private void errorsChangeNothing() {
        StyleFamilies x = with(6, 8);
        x.parent(1, 0);
        int before = print(x);
        int deeds = x.told(12);
        int[] got = {
            x.paragraph(), x.style(), x.direct(8, 0, 0), x.direct(0, 0, 2), x.sets(6, 0, 0), x.sets(0, 0, 2),
            x.ground(6, 0), x.ground(0, 2), x.head(0), x.head(21), x.apply(8, 0), x.apply(0, 6), x.parent(6, 0),
            x.parent(0, 1), x.restyle(8, 0), x.restyle(0, 6), x.reparent(6, 0), x.reparent(0, 1), x.drop(6),
            x.take(8), x.swap(0, 8), x.drift(0), x.undo(0), x.write(8, 0, 0), x.seed(-1), x.keep(2), x.goBack(0),
        };
        for (int i = 0; i < got.length; i++) {
            due.isTrue("error " + i, got[i] <= UNKNOWN);
        }
        due.is("after errors: the same", print(x), before);
        due.is("after errors: no deed", x.told(12), deeds);
        due.is("after errors: no entry", x.told(10), 0);
        due.is("after errors: the random number", x.told(13), 0);
    }
}
