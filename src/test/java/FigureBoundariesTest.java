/** The boundary cases of promises 1 to 9: a new object, and the calls that only tell. */
public final class FigureBoundariesTest {
    private static final int MIN = Integer.MIN_VALUE, MAX = Integer.MAX_VALUE;

    public static void main(String[] args) throws ReflectiveOperationException {
        Run.all(FigureBoundariesTest.class);
    }

    /** Eight paragraphs; paragraph p has 10 + p for property 2 and nothing else. */
    private static void eightParagraphs(Run r) {
        r.each("paragraph() = #; direct(#, 2, 1#)", 0, 1, 2, 3, 4, 5, 6, 7);
    }

    /** Six styles, each below the one before; style 0 sets a name. */
    private static void chainOfSix(Run r) {
        r.calls("style();".repeat(6));
        r.calls("parent(1, 0); parent(2, 1); parent(3, 2); parent(4, 3); parent(5, 4); sets(0, 4, 9)");
    }

    // ---- a new object

    static void promise1ANewObjectHasNoStylesAndParagraphs(Run r) {
        r.calls("told(0) = 0; told(1) = 0; told(2) = 0; told(3) = 0; told(4) = 0; told(5) = 0; told(6) = 0; told(7) = 0; told(8) = 0;"
            + "told(9) = 6; told(10) = 0; told(11) = NONE; told(12) = 0; has(0, 0) = UNKNOWN; styleHas(0, 0) = UNKNOWN;"
            + "goBack(0) = NOT; goBack(1) = NOT");
    }

    static void promise1TheRandomNumberIs0(Run r) {
        r.calls("told(13) = 0; seed(0) = 0; drift(1); told(13) = 794471793");
    }

    // ---- told

    static void promise2WhatIs0To13(Run r) {
        r.calls("told(0) = 0; told(13) = 0");
        r.each("told(#) = OUTSIDE", -1, 14, MIN, MAX);
    }

    static void promise2NumberOfParagraphs0To8(Run r) {
        r.calls("told(0) = 0; drift(7); told(0) = 7; paragraph(); told(0) = 8; paragraph() = FULL; told(0) = 8");
    }

    static void promise2NumberOfStyles0To6(Run r) {
        r.calls("told(1) = 0;" + "style();".repeat(5) + "told(1) = 5; style(); told(1) = 6; style() = FULL; told(1) = 6");
    }

    static void promise2NumberOfLooks0To8(Run r) {
        r.calls("told(4) = 0");
        eightParagraphs(r);
        r.calls("told(4) = 8; direct(7, 2, 16); told(4) = 7");
        r.each("direct(#, 2, NONE)", 0, 1, 2, 3, 4, 5, 6, 7);
        r.calls("told(4) = 1");
    }

    static void promise2SumOfTheCostsWithTheBestParents(Run r) {
        r.calls("told(5) = 0; style(); told(5) = 6; paragraph(); direct(0, 2, 40); told(5) = 6; head(20); told(5) = 20; head(1); told(5) = 1");
    }

    static void promise2TheSetOfUnusedStylesIsEmptyOrAll(Run r) {
        r.calls("told(8) = 0;" + "style();".repeat(6) + "told(8) = 63; paragraph(); apply(0, 5); told(8) = 31; parent(1, 0); told(8) = 30;"
            + "parent(0, 5); told(8) = 30; parent(4, 3); parent(3, 2); parent(2, 1); told(8) = 16; apply(0, 4); told(8) = 0;"
            + "take(0); told(8) = 16; parent(4, NONE); told(8) = 24");
    }

    static void promise2NumberOfEntries0To20(Run r) {
        r.calls("told(10) = 0; paragraph();" + "write(0, 0, 0);".repeat(19) + "told(10) = 19; write(0, 0, 0) = 20; told(10) = 20;"
            + "write(0, 0, 0) = FULL; told(10) = 20; tear() = 20; told(10) = 0");
    }

    static void promise2FirstWrongEntryNoneOr0To19(Run r) {
        r.calls("told(11) = NONE; paragraph(); paragraph();" + "write(0, 0, 0);".repeat(19) + "told(11) = NONE; write(1, 2, 99);"
            + "told(11) = 19; direct(1, 2, 99); told(11) = NONE; direct(0, 0, 1); told(11) = 0");
    }

    static void promise2NumberOfDeeds0To16(Run r) {
        r.calls("told(12) = 0;" + "tidy();".repeat(15) + "told(12) = 15; tidy(); told(12) = 16; tidy(); told(12) = 16; undo(16); told(12) = 0");
    }

    static void promise2TheRandomNumber0OrMore(Run r) {
        r.calls("told(13) = 0; seed(MAX) = 0; told(13) = MAX; seed(-1) = OUTSIDE; told(13) = MAX; seed(0) = MAX; told(13) = 0");
    }

    // ---- has and from

    static void promise3NoParagraph(Run r) {
        r.calls("has(0, 0) = UNKNOWN; paragraph(); has(0, 0) = 0; has(0, 5) = 0; has(1, 0) = UNKNOWN; take(0); has(0, 0) = UNKNOWN");
    }

    static void promise3EightParagraphs(Run r) {
        eightParagraphs(r);
        r.calls("has(0, 2) = 10; has(7, 2) = 17; has(7, 0) = 0; has(7, 5) = 0; has(7, 6) = UNKNOWN; has(7, -1) = UNKNOWN");
        r.each("has(#, 2) = UNKNOWN", -1, 8, MIN, MAX);
    }

    static void promise4NoParagraph(Run r) {
        r.calls("from(0, 0) = UNKNOWN; paragraph(); from(0, 0) = 0; from(0, 5) = 0; from(1, 0) = UNKNOWN");
    }

    static void promise4EightParagraphs(Run r) {
        eightParagraphs(r);
        r.calls("from(0, 2) = 1; from(7, 2) = 1; from(7, 0) = 0; from(7, 5) = 0; from(7, 6) = UNKNOWN; from(7, -1) = UNKNOWN");
        r.each("from(#, 2) = UNKNOWN", -1, 8, MIN, MAX);
    }

    /** A value of 0 counts where it is given or set, though the ground has it too. */
    static void promise4FromTheGroundDirectlyOrStyle0To5(Run r) {
        chainOfSix(r);
        r.calls("paragraph(); from(0, 4) = 0; apply(0, 5); from(0, 4) = 10; sets(5, 4, 0); from(0, 4) = 15; direct(0, 4, 0); from(0, 4) = 1;"
            + "direct(0, 4, NONE); sets(5, 4, NONE); sets(4, 4, 9); from(0, 4) = 14; parent(5, NONE); from(0, 4) = 0");
    }

    // ---- paragraphAt

    static void promise5ParagraphsWithinTheirNumber(Run r) {
        r.each("paragraphAt(0, #) = UNKNOWN", 0, 1, 2, 3, 4, 5);
        eightParagraphs(r);
        r.calls("paragraphAt(0, 1) = 5; paragraphAt(7, 1) = 5");
        r.each("paragraphAt(#, 1) = UNKNOWN", -1, 8, MIN, MAX);
    }

    static void promise5WhatIs0To5(Run r) {
        r.calls("paragraph(); direct(0, 5, 9); paragraphAt(0, 0) = NONE; paragraphAt(0, 5) = 32");
        r.each("paragraphAt(0, #) = OUTSIDE", -1, 6, MIN, MAX);
    }

    static void promise5ItsStyleNoneOr0To5(Run r) {
        chainOfSix(r);
        r.calls("paragraph(); paragraphAt(0, 0) = NONE; apply(0, 0); paragraphAt(0, 0) = 0; apply(0, 5); paragraphAt(0, 0) = 5;"
            + "apply(0, 6) = UNKNOWN; paragraphAt(0, 0) = 5");
    }

    static void promise5ItsCost0To29(Run r) {
        r.calls("paragraph(); paragraphAt(0, 1) = 0; style(); apply(0, 0); direct(0, 0, 1); direct(0, 1, 1); direct(0, 2, 99); direct(0, 3, 99);"
            + "direct(0, 4, 9); direct(0, 5, 9); paragraphAt(0, 1) = 1+2+2+5+5+7+7; paragraphAt(0, 3) = 28; paragraphAt(0, 2) = NONE");
    }

    static void promise5WhatItWouldCostKeepsNothingDirectThatIsRedundant(Run r) {
        r.calls("paragraph(); direct(0, 2, 0); paragraphAt(0, 1) = 4; paragraphAt(0, 3) = 0; direct(0, 2, 1); paragraphAt(0, 3) = 4");
    }

    static void promise5TheNumberOfItsLook0To7(Run r) {
        eightParagraphs(r);
        r.each("paragraphAt(#, 4) = #", 0, 1, 2, 3, 4, 5, 6, 7);
        r.calls("direct(0, 2, 18); paragraphAt(0, 4) = 7; paragraphAt(1, 4) = 0");
    }

    static void promise5TheSetGivenDirectly0To63(Run r) {
        r.calls("paragraph(); paragraphAt(0, 5) = 0; direct(0, 0, 0); paragraphAt(0, 5) = 1; direct(0, 5, 0); paragraphAt(0, 5) = 33;"
            + "direct(0, 1, 0); direct(0, 2, 0); direct(0, 3, 0); direct(0, 4, 0); paragraphAt(0, 5) = 63");
    }

    // ---- styleAt

    static void promise6StylesWithinTheirNumber(Run r) {
        r.each("styleAt(0, #) = UNKNOWN", 0, 1, 2, 3, 4, 5, 6);
        chainOfSix(r);
        r.calls("styleAt(0, 1) = 6+7; styleAt(5, 1) = 6+2");
        r.each("styleAt(#, 1) = UNKNOWN", -1, 6, MIN, MAX);
    }

    static void promise6WhatIs0To6(Run r) {
        r.calls("style(); styleAt(0, 0) = NONE; styleAt(0, 6) = NONE");
        r.each("styleAt(0, #) = OUTSIDE", -1, 7, MIN, MAX);
    }

    static void promise6ItsParentNoneOr0To5(Run r) {
        r.calls("style();".repeat(6));
        r.calls("styleAt(0, 0) = NONE; parent(0, 5); styleAt(0, 0) = 5; parent(0, 6) = UNKNOWN; styleAt(0, 0) = 5; parent(1, 0); styleAt(1, 0) = 0");
    }

    static void promise6ItsCost1To50(Run r) {
        r.calls("style(); style(); head(1); styleAt(1, 1) = 1; head(20); parent(1, 0); sets(1, 0, 1); sets(1, 1, 1); sets(1, 2, 99); sets(1, 3, 99);"
            + "sets(1, 4, 9); sets(1, 5, 9); styleAt(1, 1) = 20+2+28");
    }

    static void promise6TheNumberOfItsAncestors0To5(Run r) {
        chainOfSix(r);
        r.each("styleAt(#, 2) = #", 0, 1, 2, 3, 4, 5);
        r.calls("parent(3, NONE); styleAt(5, 2) = 2; styleAt(3, 2) = 0; styleAt(2, 2) = 2");
    }

    static void promise6TheNumberOfParagraphsThatHaveIt0To8(Run r) {
        chainOfSix(r);
        r.calls("styleAt(5, 3) = 0");
        r.each("paragraph(); styleAt(5, 3) = #; apply(#, 5)", 0, 1, 2, 3, 4, 5, 6, 7);
        r.calls("styleAt(5, 3) = 8; styleAt(4, 3) = 0; styleAt(0, 3) = 0; apply(0, 4); styleAt(5, 3) = 7; styleAt(4, 3) = 1");
    }

    static void promise6TheSetOfTheStylesWhoseParentItIs(Run r) {
        r.calls("style();".repeat(6));
        r.calls("styleAt(0, 4) = 0; parent(5, 0); styleAt(0, 4) = 32; parent(1, 0); parent(2, 0); parent(3, 0); parent(4, 0); styleAt(0, 4) = 62;"
            + "parent(4, 5); styleAt(0, 4) = 46; styleAt(5, 4) = 16; parent(5, NONE); parent(0, 5); styleAt(5, 4) = 17");
    }

    static void promise6TheSetThatItSets0To63(Run r) {
        r.calls("style(); styleAt(0, 5) = 0; sets(0, 0, 0); styleAt(0, 5) = 1; sets(0, 5, 0); styleAt(0, 5) = 33;"
            + "sets(0, 1, 0); sets(0, 2, 0); sets(0, 3, 0); sets(0, 4, 0); styleAt(0, 5) = 63");
    }

    // ---- styleHas, lookAt, apart

    static void promise7StylesWithinTheirNumberOrNoneForTheGround(Run r) {
        r.calls("ground(4, 3); styleHas(NONE, 4) = 3; styleHas(0, 4) = UNKNOWN");
        chainOfSix(r);
        r.calls("styleHas(NONE, 4) = 3; styleHas(0, 4) = 9; styleHas(5, 4) = 9");
        r.each("styleHas(#, 4) = UNKNOWN", -2, 6, MIN, MAX);
        r.calls("styleHas(5, 0) = 0; styleHas(5, 5) = 0; styleHas(5, -1) = UNKNOWN; styleHas(5, 6) = UNKNOWN;"
            + "styleHas(NONE, -1) = UNKNOWN; styleHas(NONE, 6) = UNKNOWN");
    }

    static void promise8NoLook(Run r) {
        r.calls("lookAt(0, 0) = UNKNOWN; lookAt(NONE, 0) = UNKNOWN; paragraph(); lookAt(0, 0) = 0; lookAt(1, 0) = UNKNOWN");
    }

    static void promise8LooksWithinTheirNumber(Run r) {
        eightParagraphs(r);
        r.calls("lookAt(0, 2) = 10; lookAt(7, 2) = 17; lookAt(7, 0) = 0; lookAt(7, 5) = 0; lookAt(7, -1) = UNKNOWN; lookAt(7, 6) = UNKNOWN");
        r.each("lookAt(#, 2) = UNKNOWN", -1, 8, MIN, MAX);
        r.calls("direct(7, 2, 16); lookAt(6, 2) = 16; lookAt(7, 2) = UNKNOWN");
    }

    static void promise8AllValuesOfALookAtTheirTop(Run r) {
        r.calls("paragraph(); direct(0, 0, 1); direct(0, 1, 1); direct(0, 2, 99); direct(0, 3, 99); direct(0, 4, 9); direct(0, 5, 9);"
            + "lookAt(0, 0) = 1; lookAt(0, 1) = 1; lookAt(0, 2) = 99; lookAt(0, 3) = 99; lookAt(0, 4) = 9; lookAt(0, 5) = 9");
    }

    static void promise9NoLook(Run r) {
        r.calls("apart(0, NONE) = UNKNOWN; apart(0, 0) = UNKNOWN; apart(NONE, NONE) = UNKNOWN; paragraph(); apart(0, NONE) = 0;"
            + "apart(0, 0) = 0; apart(0, 1) = UNKNOWN; apart(1, 0) = UNKNOWN; apart(NONE, 0) = UNKNOWN");
    }

    static void promise9LooksWithinTheirNumberOrNoneForTheGround(Run r) {
        eightParagraphs(r);
        r.calls("direct(7, 2, 9); apart(0, 7) = 4; apart(7, 0) = 5; apart(7, 7) = 0; apart(7, NONE) = 5");
        r.each("apart(#, 0) = UNKNOWN; apart(#, NONE) = UNKNOWN", -1, -2, 8, MIN, MAX);
        r.each("apart(0, #) = UNKNOWN", -2, 8, MIN, MAX);
    }

    /** The bits are those of the first look's values, from 0 to 28; the other look's do not matter. */
    static void promise9From0To28(Run r) {
        r.calls("paragraph(); paragraph(); direct(0, 0, 1); direct(0, 1, 1); direct(0, 2, 99); direct(0, 3, 99); direct(0, 4, 9); direct(0, 5, 9);"
            + "apart(1, NONE) = 28; apart(1, 0) = 28; apart(0, 1) = 2+2+4+4+3+3; apart(0, NONE) = 0; apart(1, 1) = 0; ground(2, 99);"
            + "apart(1, NONE) = 23; apart(1, 0) = 23; apart(0, 1) = 14");
    }
}
