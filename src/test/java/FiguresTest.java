/** Promises 1 to 9: a new object, and the calls that only tell. */
public final class FiguresTest {
    private static final int NONE = -1, UNKNOWN = -1000000001, OUTSIDE = -1000000002;
    private static final int[] FAR_OFF = {-2, 100, Integer.MIN_VALUE, Integer.MAX_VALUE};

    private final Due due = new Due();

    public static void main(String[] args) {
        FiguresTest test = new FiguresTest();
        test.promise1();
        test.promise2Counts();
        test.promise2Costs();
        test.promise2BestParents();
        test.promise2BestStyles();
        test.promise2EqualSets();
        test.promise2SixStyles();
        test.promise2SevenWouldPay();
        test.longestChain();
        test.promise2Book();
        test.promises3And4();
        test.promise5();
        test.promise5Nearest();
        test.promise6();
        test.promise6EqualParents();
        test.promise7();
        test.promises8And9();
        test.due.end();
    }

    /** Three styles in a row, 0 above 1 above 2, a lonely style 3, and two paragraphs. */
    private static StyleFamilies family() {
        StyleFamilies x = new StyleFamilies();
        for (int s = 0; s < 4; s++) {
            x.style();
        }
        x.parent(1, 0);
        x.parent(2, 1);
        x.sets(0, 2, 40);
        x.sets(0, 4, 7);
        x.sets(1, 4, 8);
        x.sets(2, 0, 1);
        x.paragraph();
        x.paragraph();
        x.apply(0, 2);
        x.direct(0, 5, 3);
        return x;
    }

    private void promise1() {
        StyleFamilies x = new StyleFamilies();
        int[] want = {0, 0, 0, 0, 0, 0, 0, 0, 0, 6, 0, NONE, 0, 0};
        for (int what = 0; what < want.length; what++) {
            due.is("1: told(" + what + ")", x.told(what), want[what]);
        }
        for (int property = 0; property < 6; property++) {
            due.is("1: the ground at first", x.styleHas(NONE, property), 0);
        }
        due.is("1: no image", x.goBack(0), -1000000003);
        due.is("1: no image", x.goBack(1), -1000000003);
    }

    private void promise2Counts() {
        StyleFamilies x = family();
        due.is("2: paragraphs", x.told(0), 2);
        due.is("2: styles", x.told(1), 4);
        due.is("2: looks", x.told(4), 2);
        due.is("2: styles without use", x.told(8), 8);
        x.apply(1, 3);
        due.is("2: all styles are used", x.told(8), 0);
        x.apply(0, NONE);
        due.is("2: a parent is used", x.told(8), 4);
        x.head(20);
        due.is("2: head cost", x.told(9), 20);
        due.is("2: deeds", x.told(12), 16);
        x.seed(77);
        due.is("2: the random number", x.told(13), 77);
        due.is("2: told(-1)", x.told(-1), OUTSIDE);
        due.is("2: told(14)", x.told(14), OUTSIDE);
        for (int what : FAR_OFF) {
            due.is("2: told(" + what + ")", x.told(what), OUTSIDE);
        }
    }

    private void promise2Costs() {
        StyleFamilies x = family();
        // Styles: 6+5+6, 6+2+7, 6+2+2, 6; paragraphs: 1+4 and 0.
        due.is("2: cost", x.told(2), 17 + 15 + 10 + 6 + 5);
        due.is("2: nothing redundant", x.told(3), 0);
        x.direct(0, 4, 8);
        x.direct(1, 1, 0);
        x.sets(2, 2, 40);
        x.sets(3, 3, 0);
        due.is("2: four redundant values", x.told(3), 4);
        x.sets(1, 2, 41);
        due.is("2: the nearer ancestor counts", x.told(3), 3);
        due.is("2: cost", x.told(2), 17 + 20 + 15 + 10 + 12 + 2);
        x.ground(1, 1);
        due.is("2: against another ground", x.told(3), 2);
        costsOfValues();
    }

    private void costsOfValues() {
        int[][] bits = {
            {0, 0, 2}, {0, 1, 2}, {1, 0, 2}, {1, 1, 2}, {2, 0, 4}, {2, 9, 4}, {2, 10, 5}, {2, 99, 5},
            {3, 9, 4}, {3, 10, 5}, {4, 0, 3}, {4, 1, 3}, {4, 2, 4}, {4, 9, 7}, {5, 7, 6}, {5, 8, 7},
        };
        for (int[] b : bits) {
            StyleFamilies x = new StyleFamilies();
            x.paragraph();
            x.direct(0, b[0], b[1]);
            due.is("2: bits of " + b[1] + " for " + b[0], x.told(2), b[2]);
        }
    }

    private void promise2BestParents() {
        StyleFamilies x = new StyleFamilies();
        due.is("2: best parents of no style", x.told(5), 0);
        // Looks: 0 is (2: 40, 4: 8), 1 is that and (0: 1), 2 is like 1.
        for (int s = 0; s < 3; s++) {
            x.style();
            x.sets(s, 2, 40);
            x.sets(s, 4, 8);
        }
        x.sets(1, 0, 1);
        x.sets(2, 0, 1);
        due.is("2: cost as it is", x.told(2), 18 + 18 + 18 + 4);
        due.is("2: with the best parents", x.told(5), 18 + 8 + 8 + 2);
        x.head(1);
        due.is("2: with another head cost", x.told(5), 13 + 3 + 3 + 2);
        x.ground(2, 40);
        x.ground(4, 8);
        x.ground(0, 1);
        // Now all looks are that of the ground: style 0 has its flag from there.
        due.is("2: on another ground", x.told(5), 1 + 1 + 1);
        x.sets(0, 0, 0);
        due.is("2: on another ground", x.told(5), 3 + 1 + 1);
    }

    /** Three looks of which one, (2: 40, 4: 9), serves all as a style. */
    private void promise2BestStyles() {
        StyleFamilies x = new StyleFamilies();
        for (int p = 0; p < 3; p++) {
            x.paragraph();
            x.direct(p, 2, 40);
            x.direct(p, 4, 9);
        }
        x.direct(1, 0, 1);
        x.direct(2, 3, 5);
        due.is("2: cost as it is", x.told(2), 12 + 14 + 16);
        due.is("2: cost with the best styles", x.told(6), 18 + 1 + 3 + 5);
        due.is("2: the best styles", x.told(7), 1);
        x.head(20);
        due.is("2: too dear a head", x.told(6), 32 + 1 + 3 + 5);
        x.ground(2, 40);
        due.is("2: no style pays", x.told(6), 7 + 9 + 11);
        due.is("2: no style pays", x.told(7), 0);
        due.is("2: nothing has become different", x.told(1), 0);
    }

    private void promise2EqualSets() {
        // One look twice: 12 + 12 directly, or a style of 10 + 12 and 1 + 1.
        StyleFamilies x = new StyleFamilies();
        for (int p = 0; p < 2; p++) {
            x.paragraph();
            x.direct(p, 2, 40);
            x.direct(p, 4, 9);
        }
        x.head(10);
        due.is("2: as dear as without", x.told(6), 24);
        due.is("2: the fewest looks", x.told(7), 0);
        x.head(9);
        due.is("2: cheaper by one", x.told(6), 23);
        due.is("2: cheaper by one", x.told(7), 1);
        equalLooks();
    }

    /** Two looks that serve each other equally well: the lower one is chosen. */
    private void equalLooks() {
        StyleFamilies x = new StyleFamilies();
        for (int p = 0; p < 4; p++) {
            x.paragraph();
            x.direct(p, 2, 40);
            x.direct(p, 3, 40);
            x.direct(p, 4, 9);
            x.direct(p, p < 2 ? 1 : 0, 1);
        }
        // As a style either costs 6 + 19; its two paragraphs cost 1 each, the others 1 + 4.
        // Both as styles: 25 and 6 + 2 + 4, and four times 1.
        due.is("2: equal sets, number of looks", x.told(4), 2);
        due.is("2: equal sets, cost", x.told(6), 25 + 2 + 2 * 5);
        due.is("2: equal sets, lowest", x.told(7), 1);
    }

    /** Paragraphs each of which has the look of the one before and something more; the last look twice. */
    private static StyleFamilies stairs(int steps) {
        int[][] more = {{2, 40}, {3, 40}, {4, 8}, {5, 8}, {0, 1}, {2, 50}, {3, 50}};
        StyleFamilies x = new StyleFamilies();
        x.head(1);
        // Names of 7 bits: it would not pay to take the next style and give the ground's name again.
        x.ground(4, 9);
        x.ground(5, 9);
        for (int p = 0; p <= steps; p++) {
            x.paragraph();
            for (int step = 0; step <= Math.min(p, steps - 1); step++) {
                x.direct(p, more[step][0], more[step][1]);
                if (step == 4) {
                    x.direct(p, 1, 1);
                }
            }
        }
        return x;
    }

    private void promise2SixStyles() {
        StyleFamilies x = stairs(6);
        due.is("2: six looks", x.told(4), 6);
        due.is("2: a style for each, below the one before", x.told(6), 6 + 8 + 10 + 10 + 7 + 8 + 7);
        due.is("2: a style for each, below the one before", x.told(7), 63);
        due.is("2: adopted", x.adopt(), 56);
        // In the order of the looks, name 8 comes before name 9.
        int[] ancestors = {0, 3, 2, 1, 4, 5};
        for (int s = 0; s < 6; s++) {
            due.is("2: a chain", x.styleAt(s, 2), ancestors[s]);
        }
    }

    private void promise2SevenWouldPay() {
        StyleFamilies x = stairs(7);
        due.is("2: seven looks", x.told(4), 7);
        // Seven styles would cost 65. Without look 0, 1 or 4 it is one more: sets 126, 125 and 111.
        due.is("2: at most six", x.told(6), 66);
        due.is("2: the lowest set of six", x.told(7), 111);
        due.is("2: adopted", x.adopt(), 66);
        due.is("2: adopted", x.told(1), 6);
        due.is("2: adopted", x.told(7), 111);
    }

    /** Six styles in a row: all of them are asked, up to the last. */
    private void longestChain() {
        StyleFamilies x = new StyleFamilies();
        for (int s = 0; s < 6; s++) {
            x.style();
            x.parent(s, s - 1);
        }
        x.sets(0, 0, 1);
        x.paragraph();
        x.apply(0, 5);
        due.is("3: from the last ancestor", x.has(0, 0), 1);
        due.is("4: from the last ancestor", x.from(0, 0), 10);
        due.is("6: ancestors", x.styleAt(5, 2), 5);
        due.is("7: from the last ancestor", x.styleHas(5, 0), 1);
        due.is("17: the last descendant", x.parent(0, 5), -1000000003);
        x.parent(0, NONE);
        x.parent(1, NONE);
        due.is("2: style 0 is used no more", x.told(8), 1);
        x.direct(0, 0, 0);
        due.is("2: a redundant flag", x.told(3), 1);
    }

    private void promise2Book() {
        StyleFamilies x = family();
        due.is("2: no entry", x.told(10), 0);
        due.is("2: no wrong entry", x.told(11), NONE);
        x.write(0, 2, 40);
        x.write(1, 2, 0);
        x.write(0, 5, 3);
        due.is("2: entries", x.told(10), 3);
        due.is("2: all right", x.told(11), NONE);
        x.direct(0, 5, 2);
        due.is("2: the last is wrong", x.told(11), 2);
        x.take(1);
        due.is("2: a paragraph is gone", x.told(11), 1);
        x.sets(0, 2, 41);
        due.is("2: the first wrong one", x.told(11), 0);
        x.undo(3);
        due.is("2: right again", x.told(11), NONE);
    }

    private void promises3And4() {
        StyleFamilies x = family();
        int[] values = {1, 0, 40, 0, 8, 3};
        int[] sources = {12, 0, 10, 0, 11, 1};
        for (int property = 0; property < 6; property++) {
            due.is("3: has(0, " + property + ")", x.has(0, property), values[property]);
            due.is("4: from(0, " + property + ")", x.from(0, property), sources[property]);
            due.is("3: without a style", x.has(1, property), 0);
            due.is("4: without a style", x.from(1, property), 0);
        }
        x.ground(3, 55);
        x.direct(0, 4, 0);
        due.is("3: from the ground", x.has(0, 3), 55);
        due.is("4: from the ground", x.from(0, 3), 0);
        due.is("3: given directly", x.has(0, 4), 0);
        due.is("4: given directly", x.from(0, 4), 1);
        int[][] unknown = {{2, 0}, {-1, 0}, {0, 6}, {0, -1}, {2, 6}, {100, 0}, {0, Integer.MAX_VALUE}};
        for (int[] u : unknown) {
            due.is("3: has(" + u[0] + ", " + u[1] + ")", x.has(u[0], u[1]), UNKNOWN);
            due.is("4: from(" + u[0] + ", " + u[1] + ")", x.from(u[0], u[1]), UNKNOWN);
        }
    }

    private void promise5() {
        StyleFamilies x = family();
        int[] want = {2, 5, 2, 5, 1, 32};
        int[] wantOfOther = {NONE, 0, NONE, 0, 0, 0};
        for (int what = 0; what < 6; what++) {
            due.is("5: paragraphAt(0, " + what + ")", x.paragraphAt(0, what), want[what]);
            due.is("5: paragraphAt(1, " + what + ")", x.paragraphAt(1, what), wantOfOther[what]);
        }
        x.paragraph();
        due.is("5: the same look", x.paragraphAt(2, 4), 0);
        due.is("5: no such paragraph", x.paragraphAt(3, 0), UNKNOWN);
        due.is("5: no such paragraph", x.paragraphAt(NONE, 0), UNKNOWN);
        due.is("5: no such figure", x.paragraphAt(0, 6), OUTSIDE);
        due.is("5: no such figure", x.paragraphAt(0, -1), OUTSIDE);
        due.is("5: UNKNOWN comes first", x.paragraphAt(3, 6), UNKNOWN);
        for (int what : FAR_OFF) {
            due.is("5: paragraphAt(0, " + what + ")", x.paragraphAt(0, what), OUTSIDE);
            due.is("5: paragraphAt(" + what + ", 0)", x.paragraphAt(what, 0), UNKNOWN);
        }
    }

    private void promise5Nearest() {
        StyleFamilies x = new StyleFamilies();
        x.paragraph();
        x.direct(0, 0, 1);
        x.direct(0, 2, 5);
        for (int s = 0; s < 3; s++) {
            x.style();
        }
        x.sets(1, 2, 5);
        x.sets(2, 2, 5);
        due.is("5: the lowest of equals", x.paragraphAt(0, 2), 1);
        due.is("5: its cost", x.paragraphAt(0, 3), 3);
        x.sets(2, 0, 1);
        due.is("5: the cheapest", x.paragraphAt(0, 2), 2);
        due.is("5: its cost", x.paragraphAt(0, 3), 1);
        due.is("5: it has none yet", x.paragraphAt(0, 0), NONE);
        // None costs 4 for (2: 5); style 0 spares 4, but also sets a name of 3 that the look has as 0.
        StyleFamilies y = new StyleFamilies();
        y.paragraph();
        y.direct(0, 2, 5);
        y.style();
        y.sets(0, 2, 5);
        y.sets(0, 4, 3);
        due.is("5: none comes first", y.paragraphAt(0, 2), NONE);
        due.is("5: none comes first", y.paragraphAt(0, 3), 4);
        y.apply(0, 0);
        due.is("5: a look with the style's name", y.paragraphAt(0, 2), 0);
        due.is("5: what it would cost, not what it costs", y.paragraphAt(0, 3), 1);
        due.is("5: what it costs", y.paragraphAt(0, 1), 5);
    }

    private void promise6() {
        StyleFamilies x = family();
        x.apply(1, 2);
        int[][] want = {
            {NONE, 17, 0, 0, 2, 20, NONE},
            {0, 15, 1, 0, 4, 16, 0},
            {1, 10, 2, 2, 0, 1, 1},
            {NONE, 6, 0, 0, 0, 0, NONE},
        };
        for (int s = 0; s < 4; s++) {
            for (int what = 0; what < 7; what++) {
                due.is("6: styleAt(" + s + ", " + what + ")", x.styleAt(s, what), want[s][what]);
            }
        }
        x.parent(3, 0);
        due.is("6: two children", x.styleAt(0, 4), 10);
        due.is("6: no such style", x.styleAt(4, 0), UNKNOWN);
        due.is("6: no such style", x.styleAt(NONE, 0), UNKNOWN);
        due.is("6: no such figure", x.styleAt(0, 7), OUTSIDE);
        due.is("6: no such figure", x.styleAt(0, -1), OUTSIDE);
        due.is("6: UNKNOWN comes first", x.styleAt(4, 7), UNKNOWN);
        for (int what : FAR_OFF) {
            due.is("6: styleAt(0, " + what + ")", x.styleAt(0, what), OUTSIDE);
            due.is("6: styleAt(" + what + ", 0)", x.styleAt(what, 0), UNKNOWN);
        }
    }

    private void promise6EqualParents() {
        StyleFamilies x = new StyleFamilies();
        for (int s = 0; s < 3; s++) {
            x.style();
            x.sets(s, 2, 40);
        }
        // Equal looks: one of them costs 5, each other 2 below any; 0 takes none, as none comes first.
        due.is("6: the first has none", x.styleAt(0, 6), NONE);
        due.is("6: the lowest parent", x.styleAt(1, 6), 0);
        due.is("6: the lowest parent", x.styleAt(2, 6), 0);
        // A flag costs 2 with or without a parent: none comes first.
        StyleFamilies y = new StyleFamilies();
        y.style();
        y.style();
        y.sets(0, 0, 1);
        y.sets(1, 0, 1);
        due.is("6: none comes first", y.styleAt(1, 6), NONE);
        // Style 0 is cheaper below 1: 1 cannot be below 0 as well.
        StyleFamilies z = new StyleFamilies();
        z.style();
        z.style();
        z.sets(0, 2, 40);
        z.sets(0, 3, 40);
        z.sets(0, 0, 1);
        z.sets(1, 2, 40);
        z.sets(1, 3, 40);
        due.is("6: the style with less is above", z.styleAt(0, 6), 1);
        due.is("6: the style with less is above", z.styleAt(1, 6), NONE);
    }

    private void promise7() {
        StyleFamilies x = family();
        int[][] want = {{0, 0, 40, 0, 7, 0}, {0, 0, 40, 0, 8, 0}, {1, 0, 40, 0, 8, 0}, {0, 0, 0, 0, 0, 0}};
        for (int s = 0; s < 4; s++) {
            for (int property = 0; property < 6; property++) {
                due.is("7: styleHas(" + s + ", " + property + ")", x.styleHas(s, property), want[s][property]);
            }
        }
        x.ground(5, 9);
        due.is("7: the ground", x.styleHas(NONE, 5), 9);
        due.is("7: on the ground", x.styleHas(2, 5), 9);
        due.is("7: no such style", x.styleHas(4, 0), UNKNOWN);
        due.is("7: no such style", x.styleHas(-2, 0), UNKNOWN);
        due.is("7: no such property", x.styleHas(0, 6), UNKNOWN);
        due.is("7: no such property", x.styleHas(NONE, -1), UNKNOWN);
    }

    private void promises8And9() {
        StyleFamilies x = new StyleFamilies();
        int[][] given = {{5, 9}, {0, 1}, {2, 99}, {2, 9}, {2, 99}, {1, 1}};
        for (int p = 0; p < given.length; p++) {
            x.paragraph();
            x.direct(p, given[p][0], given[p][1]);
        }
        int[][] looks = {{5, 9}, {2, 9}, {2, 99}, {1, 1}, {0, 1}};
        due.is("8: each look once", x.told(4), 5);
        for (int l = 0; l < looks.length; l++) {
            for (int property = 0; property < 6; property++) {
                int want = property == looks[l][0] ? looks[l][1] : 0;
                due.is("8: lookAt(" + l + ", " + property + ")", x.lookAt(l, property), want);
            }
        }
        due.is("8: no such look", x.lookAt(5, 0), UNKNOWN);
        due.is("8: no such look", x.lookAt(-1, 0), UNKNOWN);
        due.is("8: no such property", x.lookAt(0, 6), UNKNOWN);
        due.is("8: no such property", x.lookAt(0, -1), UNKNOWN);
        due.is("9: to the ground", x.apart(0, NONE), 7);
        due.is("9: to itself", x.apart(2, 2), 0);
        due.is("9: the values of the first count", x.apart(0, 1), 4 + 7);
        due.is("9: the values of the first count", x.apart(1, 0), 4 + 3);
        due.is("9: two sizes", x.apart(2, 1), 5);
        due.is("9: two sizes", x.apart(1, 2), 4);
        x.ground(0, 1);
        // The flag of the ground is in all looks now: the one that gave nothing else comes first.
        due.is("9: to another ground", x.apart(0, NONE), 0);
        due.is("9: to another ground", x.apart(4, NONE), 2);
        due.is("9: no such look", x.apart(5, 0), UNKNOWN);
        due.is("9: no such look", x.apart(0, 5), UNKNOWN);
        due.is("9: no such look", x.apart(0, -2), UNKNOWN);
        due.is("9: no such look", x.apart(NONE, 0), UNKNOWN);
        due.is("9: no such look", x.apart(NONE, NONE), UNKNOWN);
    }
}
