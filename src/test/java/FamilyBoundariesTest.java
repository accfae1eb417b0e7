/** The document's sentences on how many styles and paragraphs there are, their numbers, values, costs and looks. */
public final class FamilyBoundariesTest {
    private static final int MIN = Integer.MIN_VALUE, MAX = Integer.MAX_VALUE;

    public static void main(String[] args) throws ReflectiveOperationException {
        Run.all(FamilyBoundariesTest.class);
    }

    /** Six styles; style s sets property 2 to 10 + s. */
    private static void sixStyles(Run r) {
        r.each("style() = #; sets(#, 2, 1#)", 0, 1, 2, 3, 4, 5);
    }

    private static void chainOfSix(Run r) {
        r.calls("style();".repeat(6));
        r.calls("parent(1, 0); parent(2, 1); parent(3, 2); parent(4, 3); parent(5, 4)");
    }

    static void sentenceAtFirstThereAreNone(Run r) {
        r.calls("told(0) = 0; told(1) = 0; paragraphAt(0, 0) = UNKNOWN; styleAt(0, 0) = UNKNOWN;"
            + "drop(0) = UNKNOWN; take(0) = UNKNOWN; style() = 0; paragraph() = 0;"
            + "told(0) = 1; told(1) = 1; paragraphAt(0, 0) = NONE; styleAt(0, 0) = NONE");
    }

    static void sentenceThereAreAtMost6Styles(Run r) {
        sixStyles(r);
        r.calls("told(1) = 6; style() = FULL; told(1) = 6; styleHas(5, 2) = 15; styleHas(6, 2) = UNKNOWN;"
            + "drop(0) = 5; style() = 5; style() = FULL; undo(1) = 13; style() = 5; style() = FULL");
    }

    static void sentenceThereAreAtMost8Paragraphs(Run r) {
        r.each("paragraph() = #; direct(#, 2, 1#)", 0, 1, 2, 3, 4, 5, 6, 7);
        r.calls("told(0) = 8; paragraph() = FULL; told(0) = 8; has(7, 2) = 17; has(8, 2) = UNKNOWN;"
            + "take(0) = 7; paragraph() = 7; paragraph() = FULL; undo(1) = 15; drift(8) = 8; paragraph() = FULL");
    }

    static void sentenceNumbersAreInTheOrderInWhichTheyWereAdded(Run r) {
        r.calls("paragraph() = 0; style() = 0; style() = 1; paragraph() = 1; drift(1) = 3; paragraph() = 3; style() = 2");
    }

    static void sentenceLaterNumbersDecreaseWhenTheFirstStyleIsRemoved(Run r) {
        sixStyles(r);
        r.calls("parent(1, 2); parent(4, 3); paragraph(); paragraph(); apply(0, 5); apply(1, 1); drop(0) = 5");
        r.each("styleHas(#, 2) = 11+#", 0, 1, 2, 3, 4);
        r.calls("styleHas(5, 2) = UNKNOWN; styleAt(0, 0) = 1; styleAt(3, 0) = 2; styleAt(1, 0) = NONE;"
            + "paragraphAt(0, 0) = 4; paragraphAt(1, 0) = 0");
    }

    static void sentenceLaterNumbersDecreaseWhenAMiddleStyleIsRemoved(Run r) {
        sixStyles(r);
        r.calls("parent(1, 2); parent(2, 4); paragraph(); paragraph(); paragraph(); apply(0, 5); apply(1, 1); apply(2, 4);"
            + "drop(3) = 5; styleHas(0, 2) = 10; styleHas(1, 2) = 11; styleHas(2, 2) = 12; styleHas(3, 2) = 14;"
            + "styleHas(4, 2) = 15; styleHas(5, 2) = UNKNOWN; styleAt(1, 0) = 2; styleAt(2, 0) = 3;"
            + "paragraphAt(0, 0) = 4; paragraphAt(1, 0) = 1; paragraphAt(2, 0) = 3");
    }

    static void sentenceNoNumberDecreasesWhenTheLastStyleIsRemoved(Run r) {
        sixStyles(r);
        r.calls("parent(1, 2); parent(3, 4); paragraph(); apply(0, 4); drop(5) = 5");
        r.each("styleHas(#, 2) = 10+#", 0, 1, 2, 3, 4);
        r.calls("styleHas(5, 2) = UNKNOWN; styleAt(1, 0) = 2; styleAt(3, 0) = 4; paragraphAt(0, 0) = 4");
    }

    static void sentenceLaterNumbersDecreaseWhenAParagraphIsRemoved(Run r) {
        r.calls("style(); style()");
        r.each("paragraph(); direct(#, 2, 1#)", 0, 1, 2, 3, 4, 5, 6, 7);
        r.calls("apply(0, 1); apply(3, 0); apply(7, 1); take(3) = 7; has(2, 2) = 12; has(3, 2) = 14; has(6, 2) = 17;"
            + "has(7, 2) = UNKNOWN; paragraphAt(0, 0) = 1; paragraphAt(3, 0) = NONE; paragraphAt(6, 0) = 1");
        r.calls("take(0) = 6; has(0, 2) = 11; has(5, 2) = 17; has(6, 2) = UNKNOWN; paragraphAt(5, 0) = 1");
        r.calls("take(5) = 5; has(0, 2) = 11; has(4, 2) = 16; has(5, 2) = UNKNOWN; styleAt(1, 3) = 0");
    }

    static void sentenceAParentIsAnotherStyle(Run r) {
        r.calls("style(); parent(0, 0) = NOT; reparent(0, 0) = NOT; style(); parent(0, 1) = NONE; styleAt(0, 0) = 1;"
            + "parent(0, 0) = NOT; reparent(0, 0) = NOT; styleAt(0, 0) = 1");
    }

    static void sentenceNoStyleIsItsOwnAncestor(Run r) {
        chainOfSix(r);
        r.each("parent(0, #) = NOT; reparent(0, #) = NOT", 0, 1, 5);
        r.each("parent(3, #) = NOT; reparent(3, #) = NOT", 3, 4, 5);
        r.calls("parent(4, 5) = NOT; styleAt(5, 2) = 5; parent(3, 1) = 2; parent(2, 5) = 1; reparent(5, 2) = NOT;"
            + "parent(5, 0) = 4; parent(4, 5) = 3; parent(5, 4) = NOT");
    }

    static void sentenceAStylesValueIsTheOneThatItSetsOrItsParentsOrTheGrounds(Run r) {
        chainOfSix(r);
        r.calls("styleHas(5, 3) = 0; ground(3, 7); styleHas(5, 3) = 7; sets(0, 3, 10); styleHas(5, 3) = 10;"
            + "sets(4, 3, 0); styleHas(5, 3) = 0; styleHas(3, 3) = 10; sets(5, 3, 99); styleHas(5, 3) = 99;"
            + "styleHas(4, 3) = 0; sets(5, 3, NONE); styleHas(5, 3) = 0; parent(5, NONE); styleHas(5, 3) = 7");
    }

    static void sentenceAParagraphsValueIsTheOneGivenDirectlyOrItsStylesOrTheGrounds(Run r) {
        chainOfSix(r);
        r.calls("paragraph(); has(0, 3) = 0; ground(3, 7); has(0, 3) = 7; apply(0, 5); has(0, 3) = 7; sets(0, 3, 10);"
            + "has(0, 3) = 10; sets(5, 3, 0); has(0, 3) = 0; direct(0, 3, 99); has(0, 3) = 99; direct(0, 3, 0);"
            + "has(0, 3) = 0; direct(0, 3, NONE); sets(5, 3, NONE); has(0, 3) = 10; apply(0, NONE); has(0, 3) = 7");
    }

    static void sentenceTheHeadCostIs1To20And6AtFirst(Run r) {
        r.calls("told(9) = 6; style(); styleAt(0, 1) = 6; head(1) = 6; styleAt(0, 1) = 1; told(5) = 1;"
            + "head(20) = 1; styleAt(0, 1) = 20; told(5) = 20; told(2) = 20");
        r.each("head(#) = OUTSIDE", 0, 21, -1, MIN, MAX);
        r.calls("told(9) = 20; styleAt(0, 1) = 20");
    }

    static void sentenceAStyleCosts2MoreIfItHasAParent(Run r) {
        r.calls("style(); style(); styleAt(1, 1) = 6; parent(1, 0); styleAt(1, 1) = 6+2; styleAt(0, 1) = 6;"
            + "told(2) = 14; parent(1, NONE); styleAt(1, 1) = 6; told(2) = 12");
    }

    static void sentenceAParagraphCosts1IfItHasAStyleOtherwise0(Run r) {
        r.calls("style(); paragraph(); paragraphAt(0, 1) = 0; apply(0, 0); paragraphAt(0, 1) = 1; told(2) = 7;"
            + "apply(0, NONE); paragraphAt(0, 1) = 0; told(2) = 6");
    }

    static void sentenceTheCostOfEverythingIsTheSumWhenThereIsNothing(Run r) {
        r.calls("told(2) = 0; ground(2, 99); told(2) = 0; head(20); told(2) = 0; style(); told(2) = 20; drop(0); told(2) = 0");
    }

    /** All six properties of all styles and paragraphs, with the dearest values; the ground has them too. */
    private static void everything(Run r) {
        chainOfSix(r);
        r.calls("head(20)");
        r.each("sets(#, 0, 1); sets(#, 1, 1); sets(#, 2, 99); sets(#, 3, 99); sets(#, 4, 9); sets(#, 5, 9)", 0, 1, 2, 3, 4, 5);
        r.each("paragraph(); apply(#, 5); direct(#, 0, 1); direct(#, 1, 1); direct(#, 2, 99); direct(#, 3, 99);"
            + "direct(#, 4, 9); direct(#, 5, 9)", 0, 1, 2, 3, 4, 5, 6, 7);
    }

    static void sentenceTheCostOfEverythingIsTheSumWhenAllIsFull(Run r) {
        everything(r);
        // A style sets 2+2+5+5+7+7 = 28 bits; 298 for the styles, 8 * 29 for the paragraphs.
        r.calls("styleAt(0, 1) = 20+28; styleAt(5, 1) = 20+2+28; paragraphAt(7, 1) = 1+28; told(2) = 48+250+232");
    }

    static void sentenceAValueIsRedundantWhenAllOfThemAre(Run r) {
        everything(r);
        r.calls("told(3) = 30+48");
        r.calls("ground(0, 1); ground(1, 1); ground(2, 99); ground(3, 99); ground(4, 9); told(3) = 83; ground(5, 9); told(3) = 84;"
            + "tidy() = 84; told(3) = 0; told(2) = 120+10+8; tidy() = 0");
    }

    static void sentenceAValueIsRedundantIfAParagraphHasItWithoutIt(Run r) {
        r.calls("paragraph(); told(3) = 0; direct(0, 4, 1); told(3) = 0; direct(0, 4, 0); told(3) = 1; style(); apply(0, 0);"
            + "told(3) = 1; sets(0, 4, 1); told(3) = 0; direct(0, 4, 1); told(3) = 1; direct(0, 4, NONE); told(3) = 0");
    }

    static void sentenceAValueIsRedundantIfAStyleHasItWithoutIt(Run r) {
        r.calls("style(); style(); sets(1, 2, 0); told(3) = 1; sets(0, 2, 10); told(3) = 1; parent(1, 0); told(3) = 0;"
            + "sets(1, 2, 9); told(3) = 0; sets(1, 2, 10); told(3) = 1; ground(2, 10); told(3) = 2; tidy() = 2;"
            + "styleAt(0, 5) = 0; styleAt(1, 5) = 0; styleHas(1, 2) = 10");
    }

    /** What lies between counts: the grandparent's value is not redundant behind another value of the parent. */
    static void sentenceAValueIsNotRedundantBehindAnotherValueOfTheParent(Run r) {
        r.calls("style(); style(); style(); parent(1, 0); parent(2, 1); sets(0, 5, 4); sets(1, 5, 5); sets(2, 5, 4);"
            + "told(3) = 0; tidy() = 0; sets(1, 5, NONE); told(3) = 1; tidy() = 1; styleAt(2, 5) = 0; styleHas(2, 5) = 4");
    }

    static void sentenceKeepingAParagraphsLookGivesExactlyWhatDiffers(Run r) {
        r.calls("style(); sets(0, 0, 1); sets(0, 2, 10); paragraph(); direct(0, 2, 10); direct(0, 3, 0); direct(0, 4, 9);"
            + "restyle(0, 0) = 1+2+7; paragraphAt(0, 5) = 1+16; has(0, 0) = 0; has(0, 2) = 10; has(0, 3) = 0; has(0, 4) = 9;"
            + "from(0, 2) = 10; from(0, 3) = 0");
        // The same style again: what is redundant goes, and nothing else.
        r.calls("direct(0, 2, 10); restyle(0, 0) = 10; paragraphAt(0, 5) = 17; restyle(0, NONE) = 5+7; paragraphAt(0, 5) = 4+16;"
            + "direct(0, 1, 0); restyle(0, NONE) = 12; paragraphAt(0, 5) = 20");
    }

    static void sentenceKeepingAStylesLookSetsExactlyWhatDiffers(Run r) {
        r.calls("style(); sets(0, 0, 1); sets(0, 2, 10); style(); sets(1, 2, 10); sets(1, 3, 0); sets(1, 4, 9);"
            + "reparent(1, 0) = 6+2+2+7; styleAt(1, 5) = 1+16; styleHas(1, 0) = 0; styleHas(1, 2) = 10; styleHas(1, 3) = 0;"
            + "styleHas(1, 4) = 9; sets(1, 2, 10); reparent(1, 0) = 17; styleAt(1, 5) = 17;"
            + "reparent(1, NONE) = 6+5+7; styleAt(1, 5) = 4+16; sets(1, 1, 0); reparent(1, NONE) = 18; styleAt(1, 5) = 20");
    }
}
