/** The boundary cases of promises 10 to 27: the deeds, drift and undo. */
public final class DeedBoundariesTest {
    private static final int MIN = Integer.MIN_VALUE, MAX = Integer.MAX_VALUE;

    public static void main(String[] args) throws ReflectiveOperationException {
        Run.all(DeedBoundariesTest.class);
    }

    private static void sixStylesAndEightParagraphs(Run r) {
        r.calls("style();".repeat(6) + "paragraph();".repeat(8));
    }

    // ---- paragraph and style

    static void promise10ANinthParagraph(Run r) {
        r.calls("paragraph();".repeat(7));
        r.calls("paragraph() = 7; paragraph() = FULL; told(0) = 8; told(12) = 8; take(3) = 7; paragraph() = 7; paragraph() = FULL");
    }

    static void promise10NothingIsLeftOfAnotherParagraphInItsPlace(Run r) {
        r.calls("style(); sets(0, 0, 1); paragraph(); paragraph(); apply(1, 0); direct(1, 2, 99); direct(1, 5, 0); take(1); paragraph() = 1;"
            + "paragraphAt(1, 0) = NONE; paragraphAt(1, 5) = 0; paragraphAt(1, 1) = 0; has(1, 0) = 0; has(1, 2) = 0");
    }

    static void promise11ASeventhStyle(Run r) {
        r.calls("style();".repeat(5));
        r.calls("style() = 5; style() = FULL; told(1) = 6; told(12) = 6; drop(3) = 5; style() = 5; style() = FULL");
    }

    static void promise11NothingIsLeftOfAnotherStyleInItsPlace(Run r) {
        r.calls("style(); style(); parent(1, 0); sets(1, 2, 99); sets(1, 5, 0); drop(1); style() = 1; styleAt(1, 0) = NONE; styleAt(1, 5) = 0;"
            + "styleAt(1, 1) = 6; styleHas(1, 2) = 0");
    }

    // ---- direct, sets, ground, head

    static void promise12ParagraphsWithinTheirNumber(Run r) {
        r.calls("direct(0, 0, 0) = UNKNOWN");
        sixStylesAndEightParagraphs(r);
        r.calls("direct(0, 0, 1) = NONE; direct(7, 0, 1) = NONE; has(6, 0) = 0; has(7, 0) = 1");
        r.each("direct(#, 0, 1) = UNKNOWN; direct(#, 0, NONE) = UNKNOWN", -1, 8, MIN, MAX);
    }

    static void promise12ZeroIsGivenAndNoneIsNotGiven(Run r) {
        r.calls("paragraph(); direct(0, 3, NONE) = NONE; direct(0, 3, 0) = NONE; paragraphAt(0, 5) = 8; direct(0, 3, 0) = 0;"
            + "direct(0, 3, NONE) = 0; paragraphAt(0, 5) = 0; direct(0, 3, NONE) = NONE; direct(0, 3, -2) = OUTSIDE; paragraphAt(0, 5) = 0");
    }

    static void promise13StylesWithinTheirNumber(Run r) {
        r.calls("sets(0, 0, 0) = UNKNOWN");
        sixStylesAndEightParagraphs(r);
        r.calls("sets(0, 0, 1) = NONE; sets(5, 0, 1) = NONE; styleHas(4, 0) = 0; styleHas(5, 0) = 1");
        r.each("sets(#, 0, 1) = UNKNOWN; sets(#, 0, NONE) = UNKNOWN", -1, 6, 7, MIN, MAX);
    }

    static void promise13ZeroIsSetAndNoneIsNotSet(Run r) {
        r.calls("style(); sets(0, 3, NONE) = NONE; sets(0, 3, 0) = NONE; styleAt(0, 5) = 8; sets(0, 3, 0) = 0;"
            + "sets(0, 3, NONE) = 0; styleAt(0, 5) = 0; sets(0, 3, NONE) = NONE; sets(0, 3, -2) = OUTSIDE; styleAt(0, 5) = 0");
    }

    static void promise14NoneIsNoValueOfTheGround(Run r) {
        r.calls("ground(3, 0) = 0; ground(3, NONE) = OUTSIDE; ground(3, 99) = 0; ground(3, 100) = OUTSIDE; ground(3, 99) = 99; styleHas(NONE, 3) = 99;"
            + "ground(0, 1) = 0; ground(5, 9) = 0; ground(-1, 0) = UNKNOWN; ground(6, 0) = UNKNOWN");
    }

    static void promise15TheHeadCostIs1To20(Run r) {
        r.calls("head(1) = 6; head(0) = OUTSIDE; head(2) = 1; head(20) = 2; head(21) = OUTSIDE; head(19) = 20; head(NONE) = OUTSIDE; told(9) = 19");
    }

    // ---- apply, parent, restyle, reparent

    static void promise16ParagraphsAndStylesWithinTheirNumber(Run r) {
        r.calls("apply(0, NONE) = UNKNOWN");
        sixStylesAndEightParagraphs(r);
        r.calls("apply(0, 5) = NONE; apply(7, 0) = NONE; apply(7, 5) = 0; apply(0, NONE) = 5; apply(0, NONE) = NONE");
        r.each("apply(#, 0) = UNKNOWN", -1, 8, MIN, MAX);
        r.each("apply(0, #) = UNKNOWN", -2, 6, 7, MIN, MAX);
    }

    static void promise16WhatIsGivenDirectlyStays(Run r) {
        r.calls("style(); sets(0, 2, 9); sets(0, 3, 9); paragraph(); direct(0, 2, 9); apply(0, 0) = NONE; paragraphAt(0, 5) = 4; has(0, 3) = 9;"
            + "apply(0, 0) = 0; paragraphAt(0, 5) = 4; apply(0, NONE) = 0; paragraphAt(0, 5) = 4; has(0, 3) = 0");
    }

    static void promise17StylesWithinTheirNumber(Run r) {
        r.calls("parent(0, NONE) = UNKNOWN");
        sixStylesAndEightParagraphs(r);
        r.calls("parent(0, 5) = NONE; parent(5, 4) = NONE; parent(0, NONE) = 5; parent(0, NONE) = NONE; parent(5, 0) = 4");
        r.each("parent(#, 0) = UNKNOWN; parent(#, NONE) = UNKNOWN", -1, 6, 7, MIN, MAX);
        r.each("parent(0, #) = UNKNOWN", -2, 6, 7, MIN, MAX);
    }

    static void promise17NotItselfAndNoDescendant(Run r) {
        r.calls("style(); style(); style(); style(); parent(1, 0); parent(2, 1); parent(0, 0) = NOT; parent(0, 1) = NOT; parent(0, 2) = NOT;"
            + "parent(0, 3) = NONE; parent(3, 2) = NOT; parent(2, 0) = 1; parent(1, 2) = 0; parent(2, 1) = NOT");
    }

    static void promise17WhatItSetsStays(Run r) {
        r.calls("style(); style(); sets(0, 2, 9); sets(0, 3, 9); sets(1, 2, 9); parent(1, 0) = NONE; styleAt(1, 5) = 4; styleHas(1, 3) = 9;"
            + "parent(1, NONE) = 0; styleAt(1, 5) = 4; styleHas(1, 3) = 0");
    }

    static void promise18ParagraphsAndStylesWithinTheirNumber(Run r) {
        r.calls("restyle(0, NONE) = UNKNOWN");
        sixStylesAndEightParagraphs(r);
        r.calls("restyle(0, 5) = 1; restyle(7, 0) = 1; restyle(0, NONE) = 0; restyle(0, NONE) = 0");
        r.each("restyle(#, 0) = UNKNOWN", -1, 8, MIN, MAX);
        r.each("restyle(0, #) = UNKNOWN", -2, 6, 7, MIN, MAX);
    }

    static void promise18AllSixPropertiesDifferOrNone(Run r) {
        r.calls("style(); sets(0, 0, 1); sets(0, 1, 1); sets(0, 2, 99); sets(0, 3, 99); sets(0, 4, 9); sets(0, 5, 9); paragraph();"
            + "restyle(0, 0) = 1+2+2+4+4+3+3; paragraphAt(0, 5) = 63; restyle(0, NONE) = 0; paragraphAt(0, 5) = 0; apply(0, 0);"
            + "restyle(0, NONE) = 28; paragraphAt(0, 5) = 63; restyle(0, 0) = 1; paragraphAt(0, 5) = 0; has(0, 5) = 9");
    }

    static void promise19StylesWithinTheirNumber(Run r) {
        r.calls("reparent(0, NONE) = UNKNOWN");
        sixStylesAndEightParagraphs(r);
        r.calls("reparent(0, 5) = 8; reparent(5, 4) = 8; reparent(0, NONE) = 6; reparent(0, NONE) = 6; reparent(5, 0) = 8");
        r.each("reparent(#, 0) = UNKNOWN; reparent(#, NONE) = UNKNOWN", -1, 6, 7, MIN, MAX);
        r.each("reparent(0, #) = UNKNOWN", -2, 6, 7, MIN, MAX);
    }

    static void promise19NotItselfAndNoDescendant(Run r) {
        r.calls("style(); style(); style(); style(); parent(1, 0); parent(2, 1); reparent(0, 0) = NOT; reparent(0, 1) = NOT; reparent(0, 2) = NOT;"
            + "reparent(0, 3) = 8; reparent(3, 2) = NOT; reparent(2, 0) = 8; reparent(1, 2) = 8; reparent(2, 1) = NOT");
    }

    static void promise19AllSixPropertiesDifferOrNone(Run r) {
        r.calls("style(); style(); sets(0, 0, 1); sets(0, 1, 1); sets(0, 2, 99); sets(0, 3, 99); sets(0, 4, 9); sets(0, 5, 9);"
            + "reparent(1, 0) = 6+2+18; styleAt(1, 5) = 63; reparent(1, NONE) = 6; styleAt(1, 5) = 0; parent(1, 0);"
            + "reparent(1, NONE) = 6+28; styleAt(1, 5) = 63; reparent(1, 0) = 8; styleAt(1, 5) = 0; styleHas(1, 5) = 9");
    }

    // ---- drop, take, swap

    static void promise20StylesWithinTheirNumber(Run r) {
        r.calls("drop(0) = UNKNOWN");
        sixStylesAndEightParagraphs(r);
        r.each("drop(#) = UNKNOWN", -1, 6, 7, MIN, MAX);
        r.calls("drop(5) = 5; drop(5) = UNKNOWN; drop(0) = 4; drop(0) = 3; drop(0) = 2; drop(0) = 1; drop(1) = UNKNOWN; drop(0) = 0; drop(0) = UNKNOWN");
    }

    /** The first of the chain goes, so its child and its paragraph get none. */
    static void promise20NoneInsteadOfAStyleWithoutAParent(Run r) {
        r.calls("style(); style(); parent(1, 0); sets(0, 2, 9); sets(1, 3, 9); sets(1, 4, 0); paragraph(); apply(0, 0); direct(0, 5, 0); drop(0) = 1;"
            + "styleAt(0, 0) = NONE; styleAt(0, 5) = 4+8; styleHas(0, 2) = 9; styleHas(0, 3) = 9; paragraphAt(0, 0) = NONE;"
            + "paragraphAt(0, 5) = 4; has(0, 2) = 9");
    }

    /** The last of a chain of six goes: its paragraph gets the one before, whose number stays. */
    static void promise20ItsParentInsteadOfTheLastStyle(Run r) {
        r.calls("style();".repeat(6));
        r.calls("parent(1, 0); parent(2, 1); parent(3, 2); parent(4, 3); parent(5, 4); sets(0, 2, 9); sets(5, 3, 9); paragraph(); apply(0, 5);"
            + "drop(5) = 5; paragraphAt(0, 0) = 4; paragraphAt(0, 5) = 8; has(0, 2) = 9; has(0, 3) = 9; styleAt(4, 2) = 4");
    }

    /** The parent has a later number than the style that goes. */
    static void promise20AParentWhoseNumberDecreases(Run r) {
        r.calls("style(); style(); style(); parent(0, 2); parent(1, 0); sets(0, 2, 9); sets(2, 3, 9); paragraph(); apply(0, 0); drop(0) = 2;"
            + "styleAt(0, 0) = 1; styleAt(0, 5) = 4; paragraphAt(0, 0) = 1; paragraphAt(0, 5) = 4; styleHas(0, 3) = 9; has(0, 3) = 9; styleAt(1, 0) = NONE");
    }

    /** All other styles and paragraphs, the first and the last too, have the style that goes. */
    static void promise20AllOthersHaveIt(Run r) {
        sixStylesAndEightParagraphs(r);
        r.calls("sets(3, 2, 9); parent(3, NONE)");
        r.each("parent(#, 3)", 0, 1, 2, 4, 5);
        r.each("apply(#, 3)", 0, 1, 2, 3, 4, 5, 6, 7);
        r.calls("drop(3) = 5");
        r.each("styleAt(#, 0) = NONE; styleAt(#, 5) = 4; styleHas(#, 2) = 9", 0, 1, 2, 3, 4);
        r.each("paragraphAt(#, 0) = NONE; paragraphAt(#, 5) = 4; has(#, 2) = 9", 0, 1, 2, 3, 4, 5, 6, 7);
    }

    static void promise20WhatOthersSetAndGiveStays(Run r) {
        r.calls("style(); style(); sets(1, 2, 0); paragraph(); apply(0, 1); direct(0, 2, 0); drop(0) = 1; styleAt(0, 5) = 4; paragraphAt(0, 5) = 4;"
            + "told(3) = 2");
    }

    static void promise21ParagraphsWithinTheirNumber(Run r) {
        r.calls("take(0) = UNKNOWN");
        sixStylesAndEightParagraphs(r);
        r.each("take(#) = UNKNOWN", -1, 8, MIN, MAX);
        r.calls("take(7) = 7; take(7) = UNKNOWN; take(0) = 6;" + "take(0);".repeat(5) + "take(1) = UNKNOWN; take(0) = 0; take(0) = UNKNOWN; told(1) = 6");
    }

    static void promise21AllSixPropertiesAndTheStyleGoWithTheNumber(Run r) {
        Filled.make(r);
        r.calls("take(0) = 7");
        for (int p = 0; p < 7; p++) {
            Filled.paragraph(r, p, p + 1);
        }
    }

    static void promise22ParagraphsWithinTheirNumberPossiblyTheSame(Run r) {
        r.calls("swap(0, 0) = UNKNOWN");
        sixStylesAndEightParagraphs(r);
        r.calls("direct(7, 2, 9); apply(7, 5); swap(0, 7) = 1; has(0, 2) = 9; has(7, 2) = 0; paragraphAt(0, 0) = 5; paragraphAt(7, 0) = NONE;"
            + "swap(7, 7) = 0; swap(0, 0) = 0; has(0, 2) = 9; swap(6, 7) = 0");
        r.each("swap(#, 0) = UNKNOWN; swap(0, #) = UNKNOWN; swap(#, #) = UNKNOWN", -1, 8, MIN, MAX);
    }

    static void promise22AllSixPropertiesAndTheStyleAreExchanged(Run r) {
        Filled.make(r);
        r.calls("swap(0, 7) = 1");
        Filled.paragraph(r, 0, 7);
        Filled.paragraph(r, 7, 0);
        Filled.paragraph(r, 1, 1);
        Filled.paragraph(r, 6, 6);
        Filled.styles(r);
    }

    static void promise22EqualLooksOfDifferentDescriptions(Run r) {
        r.calls("style(); sets(0, 2, 9); paragraph(); paragraph(); apply(0, 0); direct(1, 2, 9); swap(0, 1) = 0; paragraphAt(0, 0) = NONE;"
            + "paragraphAt(0, 5) = 4; paragraphAt(1, 0) = 0; paragraphAt(1, 5) = 0; direct(0, 2, 10); swap(0, 1) = 1");
    }

    // ---- tidy, knit, adopt

    static void promise23NothingIsRedundant(Run r) {
        r.calls("tidy() = 0; told(12) = 1; style(); paragraph(); tidy() = 0; sets(0, 2, 1); direct(0, 2, 1); tidy() = 0; styleAt(0, 5) = 4;"
            + "paragraphAt(0, 5) = 4");
    }

    /** Along a chain each value is redundant through the one above, and the first through the ground. */
    static void promise23AllAlongAChain(Run r) {
        r.calls("style();".repeat(6));
        r.calls("parent(0, 1); parent(1, 2); parent(2, 3); parent(3, 4); parent(4, 5); paragraph(); apply(0, 0); direct(0, 2, 9)");
        r.each("sets(#, 2, 9)", 0, 1, 2, 3, 4, 5);
        r.calls("told(3) = 6; tidy() = 6; styleAt(5, 5) = 4; styleAt(0, 5) = 0; paragraphAt(0, 5) = 0; has(0, 2) = 9; from(0, 2) = 15;"
            + "ground(2, 9); tidy() = 1; styleAt(5, 5) = 0; has(0, 2) = 9; from(0, 2) = 0; tidy() = 0");
    }

    static void promise24NoStyleOrOne(Run r) {
        r.calls("knit() = 0; paragraph(); direct(0, 2, 40); knit() = 5; style(); knit() = 11; sets(0, 3, 0); knit() = 11; styleAt(0, 5) = 0; told(3) = 0");
    }

    /** Parents that do not pay go; what is given directly stays, though it is redundant. */
    static void promise24ParentsThatDoNotPayGo(Run r) {
        r.calls("style(); style(); parent(1, 0); sets(0, 0, 1); paragraph(); apply(0, 1); direct(0, 0, 1); told(2) = 8+8+3; knit() = 8+8+3;"
            + "styleAt(1, 0) = NONE; styleAt(1, 5) = 1; paragraphAt(0, 0) = 1; paragraphAt(0, 5) = 1");
    }

    static void promise24TheWholeOrderTurnsRound(Run r) {
        // As looks: 0 has the sizes and the flag, 1 has the sizes, 2 has the first size.
        r.calls("style(); style(); style(); sets(0, 0, 1); sets(0, 2, 40); sets(0, 3, 40); parent(1, 0); sets(1, 0, 0); parent(2, 1); sets(2, 3, 0);"
            + "told(2) = 18+10+12; knit() = 10+13+11; styleAt(0, 0) = 1; styleAt(1, 0) = 2; styleAt(2, 0) = NONE; styleAt(0, 5) = 1; styleAt(1, 5) = 8;"
            + "styleAt(2, 5) = 4; styleHas(0, 2) = 40; styleHas(1, 0) = 0; styleHas(2, 3) = 0");
    }

    static void promise25NoParagraph(Run r) {
        r.calls("adopt() = 0; told(12) = 1;" + "style();".repeat(6) + "adopt() = 0; told(1) = 0; undo(1) = 7; told(1) = 6");
    }

    static void promise25NoStylePays(Run r) {
        r.calls("style(); sets(0, 2, 40); paragraph(); apply(0, 0); adopt() = 5; told(1) = 0; paragraphAt(0, 0) = NONE; paragraphAt(0, 5) = 4");
    }

    /** Three times (2: 9, 4: 9), and (2: 9), which costs 4 with the style as well as without: none comes first. */
    static void promise25TheNearestStyleIsNoneIfItCostsAsMuch(Run r) {
        r.calls("paragraph();".repeat(4));
        r.each("direct(#, 2, 9)", 0, 1, 2, 3);
        r.each("direct(#, 4, 9)", 0, 1, 2);
        r.calls("told(6) = 17+3+4; adopt() = 24; told(1) = 1; styleAt(0, 5) = 20; paragraphAt(2, 0) = 0; paragraphAt(3, 0) = NONE; paragraphAt(3, 5) = 4;"
            + "has(3, 2) = 9; adopt() = 24");
    }

    /**
     * The looks (3: 40, 4: 9) and (2: 9, 4: 9), each twice: 12 bits and 10 with the parent, or 11 with the parent and 11.
     * Then (3: 40, 4: 9) and (0: 1, 1: 1, 3: 40): the second costs 9 bits alone and 2+7 below the first.
     */
    static void promise25EqualBestParentsOfTheBestStyles(Run r) {
        r.calls("head(2); paragraph(); paragraph(); paragraph(); paragraph()");
        r.each("direct(#, 3, 40); direct(#, 4, 9)", 0, 1);
        r.each("direct(#, 2, 9); direct(#, 4, 9)", 2, 3);
        r.calls("told(6) = 14+12+4; told(7) = 3; adopt() = 30; styleAt(0, 0) = NONE; styleAt(1, 0) = 0; styleAt(0, 5) = 8+16; styleAt(1, 5) = 4+8");
        r.each("restyle(#, NONE) = 11; direct(#, 2, NONE) = 9; direct(#, 4, NONE) = 9; direct(#, 0, 1); direct(#, 1, 1); direct(#, 3, 40)", 2, 3);
        r.calls("told(6) = 14+11+4; told(7) = 3; adopt() = 29; styleAt(0, 0) = NONE; styleAt(1, 0) = NONE; styleAt(1, 5) = 1+2+8; paragraphAt(3, 0) = 1");
    }

    /** The old style 0 and the new one have nothing in common but the number. */
    static void promise25TheOldStylesAreAllReplaced(Run r) {
        r.calls("style();".repeat(6));
        r.calls("sets(0, 0, 1); paragraph(); paragraph(); paragraph(); apply(0, 0); direct(1, 2, 40); direct(1, 3, 40); direct(1, 4, 9);"
            + "direct(2, 2, 40); direct(2, 3, 40); direct(2, 4, 9); adopt() = 6+17+1+1+2; told(1) = 1; styleAt(0, 5) = 4+8+16; styleAt(1, 0) = UNKNOWN;"
            + "paragraphAt(0, 0) = NONE; has(0, 0) = 1; paragraphAt(1, 0) = 0; paragraphAt(2, 5) = 0; undo(1); told(1) = 6; paragraphAt(0, 0) = 0");
    }

    // ---- drift

    static void promise26HowManyIs1To8(Run r) {
        r.each("drift(#) = OUTSIDE", 0, 9, -1, MIN, MAX);
        r.calls("told(13) = 0; told(0) = 0; drift(1) = 1; told(13) = 794471793; drift(8) = 8; told(13) = 342738416");
        r.anew();
        r.calls("drift(8) = 8; told(13) = 342738416; told(12) = 8");
    }

    static void promise26AsLongAsThereAreFewerThan8(Run r) {
        r.calls("paragraph();".repeat(6));
        r.calls("drift(1) = 7; told(13) = 794471793; drift(8) = 8; told(13) = 1157490780; drift(1) = 8; drift(8) = 8; told(13) = 1157490780;"
            + "told(12) = 8; drift(9) = OUTSIDE; take(0); drift(2) = 8; told(13) = 371038354");
    }

    static void promise26TheEightParagraphsOfRandomNumber0(Run r) {
        r.calls("drift(8)");
        int[][] given = {
            {-1, -1, 5, -1, 2, 4}, {1, 1, 0, -1, 2, 0}, {-1, 1, 10, 5, 2, -1}, {1, -1, 10, -1, 0, 2},
            {0, -1, -1, 0, 2, 2}, {0, -1, -1, 10, 2, 4}, {0, 1, 5, -1, 2, 2}, {1, -1, -1, 10, 4, -1},
        };
        for (int p = 0; p < 8; p++) {
            for (int property = 0; property < 6; property++) {
                int value = given[p][property];
                r.calls("from(P) = F; has(P) = V".replace("P", p + ", " + property)
                    .replace("F", value < 0 ? "0" : "1").replace("V", "" + Math.max(value, 0)));
            }
            r.calls("paragraphAt(" + p + ", 0) = NONE");
        }
    }

    /** One paragraph from this random number: what is given directly (NONE where nothing), and the random number after it. */
    private static void drawn(Run r, int seed, String after, int... given) {
        r.anew();
        r.calls("seed(" + seed + "); drift(1) = 1; told(13) = " + after + "; paragraphAt(0, 0) = NONE");
        for (int property = 0; property < 6; property++) {
            r.calls("direct(0, " + property + ", NONE) = " + given[property]);
        }
    }

    static void promise26NothingIsGivenIfEachFirstNumberIs0(Run r) {
        drawn(r, 150, "1698343024", -1, -1, -1, -1, -1, -1);
    }

    static void promise26TheSmallestAndTheLargestValues(Run r) {
        drawn(r, 1708, "523389872", 0, 0, 0, 0, 0, 0);
        drawn(r, 251, "870122703", 1, 1, 10, 10, 4, 4);
    }

    static void promise26TheLargestRandomNumberWrapsAround(Run r) {
        drawn(r, MAX, "561616019", 1, 0, 10, 10, 4, 2);
        drawn(r, MAX - 1, "2050307885", 0, 0, 10, 10, -1, 2);
    }

    /** From these the first number drawn is 0, or 2 to the power of 31 less 1; from the last the random number ends at 0. */
    static void promise26TheRandomNumberBecomes0OrTheLargest(Run r) {
        drawn(r, 2088216195, "1051550459", -1, -1, -1, 5, -1, 2);
        drawn(r, 230538014, "834541773", 1, 0, -1, 10, 4, 4);
        drawn(r, 1263411467, "0", -1, 0, -1, 0, 0, -1);
    }

    /** The values are given directly, whatever the ground has; there is no style, though there are some. */
    static void promise26ZeroIsGivenDirectlyOnAnotherGround(Run r) {
        r.calls("style(); ground(0, 1); ground(5, 9); seed(1708); drift(1); paragraphAt(0, 0) = NONE; paragraphAt(0, 5) = 63; has(0, 0) = 0; has(0, 5) = 0");
    }

    // ---- undo

    static void promise27HowManyIs1To16(Run r) {
        r.calls("tidy();".repeat(20));
        r.each("undo(#) = OUTSIDE", 0, 17, -1, MIN, MAX);
        r.calls("undo(1) = 15; tidy(); undo(16) = 0; undo(1) = NOT; undo(17) = OUTSIDE; undo(0) = OUTSIDE");
    }

    static void promise27NotMoreThanThereAre(Run r) {
        r.calls("undo(1) = NOT; style(); undo(2) = NOT; told(1) = 1; undo(1) = 0; told(1) = 0; undo(1) = NOT; style(); style(); undo(3) = NOT; undo(2) = 0");
    }

    static void promise27WhatIsUndoneIsNoDeedToUndo(Run r) {
        r.calls("style(); paragraph(); undo(1) = 1; undo(2) = NOT; told(0) = 0; paragraph(); told(12) = 2; undo(2) = 0; told(0) = 0; told(1) = 0");
    }
}
