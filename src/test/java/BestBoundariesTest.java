/** The document's sentences on the best parents, the looks that occur, the best styles and the nearest style. */
public final class BestBoundariesTest {
    public static void main(String[] args) throws ReflectiveOperationException {
        Run.all(BestBoundariesTest.class);
    }

    // ---- the best parents

    static void sentenceTheBestParentsOfNoStyle(Run r) {
        r.calls("told(5) = 0; knit() = 0; styleAt(0, 6) = UNKNOWN; style(); told(5) = 6; styleAt(0, 6) = NONE");
    }

    static void sentenceTheBestParentOfTheOnlyStyleIsNone(Run r) {
        r.calls("style(); sets(0, 2, 99); told(5) = 6+5; styleAt(0, 6) = NONE; styleAt(1, 6) = UNKNOWN");
    }

    /** A flag costs 2 alone, and 2 below a style that has it; a name of 3 bits is cheaper below. */
    static void sentenceOfEqualParentsNoneComesFirst(Run r) {
        r.calls("style(); style(); sets(0, 0, 1); sets(1, 0, 1); told(5) = 8+8; styleAt(0, 6) = NONE; styleAt(1, 6) = NONE");
        r.anew();
        r.calls("style(); style(); ground(4, 2); sets(0, 4, 1); sets(1, 4, 1); told(5) = 9+8; styleAt(0, 6) = NONE;"
            + "styleAt(1, 6) = 0; knit() = 17; styleAt(1, 0) = 0; styleAt(1, 5) = 0");
    }

    /** Either of two equal styles may be the root: by the parent of style 0 it is style 0. */
    static void sentenceTheParentOfStyle0DecidesFirst(Run r) {
        r.calls("style(); style(); style(); sets(0, 2, 40); sets(1, 2, 40); sets(2, 2, 40); told(5) = 11+8+8;"
            + "styleAt(0, 6) = NONE; styleAt(1, 6) = 0; styleAt(2, 6) = 0");
    }

    /**
     * Style 0 costs 6+2+7 below 1 and below 2, which are equal; one of these is below the other. All four
     * possibilities cost the same; the parents 1, none, 1 are lexicographically smallest.
     */
    static void sentenceOfEqualParentsTheLowestStyleComesFirst(Run r) {
        r.calls("style(); style(); style(); sets(0, 2, 40); sets(0, 3, 40); sets(0, 4, 8);"
            + "sets(1, 2, 40); sets(1, 3, 40); sets(2, 2, 40); sets(2, 3, 40); told(5) = 15+16+8;"
            + "styleAt(0, 6) = 1; styleAt(1, 6) = NONE; styleAt(2, 6) = 1");
    }

    /** Each of the two would be cheapest below the other: the sum decides which one is. */
    static void sentenceTheBestParentsMakeNoStyleItsOwnAncestor(Run r) {
        r.calls("style(); style(); sets(0, 2, 40); sets(0, 3, 40); sets(0, 0, 1); sets(1, 2, 40); sets(1, 3, 40);"
            + "told(5) = 10+16; styleAt(0, 6) = 1; styleAt(1, 6) = NONE; knit() = 26; parent(1, 0) = NOT");
    }

    static void sentenceTheBestParentsMayBeStyle5(Run r) {
        r.calls("style();".repeat(6));
        r.calls("sets(0, 2, 40); sets(0, 3, 40); sets(0, 4, 9); sets(5, 2, 40); sets(5, 3, 40); styleAt(0, 6) = 5;"
            + "told(5) = 15+6+6+6+6+16");
        r.each("styleAt(#, 6) = NONE", 1, 2, 3, 4, 5);
    }

    static void sentenceTheBestParentsMayBeAChainOfSix(Run r) {
        int[][] more = {{2, 40}, {3, 40}, {4, 9}, {5, 9}, {0, 1}, {1, 1}};
        for (int s = 0; s < 6; s++) {
            r.calls("style()");
            for (int step = 0; step <= s; step++) {
                r.calls("sets(" + s + ", " + more[step][0] + ", " + more[step][1] + ")");
            }
        }
        r.calls("told(5) = 11+13+15+15+10+10; styleAt(0, 6) = NONE");
        r.calls("styleAt(1, 6) = 0; styleAt(2, 6) = 1; styleAt(3, 6) = 2; styleAt(4, 6) = 3; styleAt(5, 6) = 4;"
            + "knit() = 74; styleAt(5, 2) = 5; styleAt(5, 5) = 2");
    }

    // ---- the looks that occur

    static void sentenceTheLooksThatOccurAreNoneWithoutParagraphs(Run r) {
        r.calls("style(); sets(0, 0, 1); told(4) = 0; lookAt(0, 0) = UNKNOWN; paragraph(); told(4) = 1; lookAt(0, 0) = 0;"
            + "lookAt(1, 0) = UNKNOWN; take(0); told(4) = 0; lookAt(0, 0) = UNKNOWN");
    }

    static void sentenceEachLookOccursOnce(Run r) {
        // The same look: from the ground, given directly, and from a style.
        r.calls("ground(2, 7); paragraph(); paragraph(); direct(1, 2, 7); style(); sets(0, 2, 7); paragraph(); apply(2, 0);"
            + "told(4) = 1; paragraphAt(0, 4) = 0; paragraphAt(1, 4) = 0; paragraphAt(2, 4) = 0; lookAt(1, 2) = UNKNOWN;"
            + "ground(2, 8); told(4) = 2; paragraphAt(0, 4) = 1; paragraphAt(2, 4) = 0; lookAt(1, 2) = 8");
    }

    static void sentenceThereMayBe8Looks(Run r) {
        r.calls("paragraph();".repeat(8));
        r.each("direct(#, 2, 9#)", 0, 1, 2, 3, 4, 5, 6);
        r.calls("direct(7, 2, 96); told(4) = 7; lookAt(6, 2) = 96; lookAt(7, 2) = UNKNOWN; direct(7, 2, 97); told(4) = 8;"
            + "lookAt(7, 2) = 97; lookAt(8, 2) = UNKNOWN; apart(7, 0) = 5; apart(8, 0) = UNKNOWN; paragraph() = FULL");
    }

    static void sentenceLooksAreInLexicographicOrderProperty0First(Run r) {
        // Each look has the top value of one property, and that is more than all of the later ones.
        r.calls("paragraph();".repeat(8));
        r.calls("direct(7, 5, 9); direct(6, 4, 1); direct(5, 3, 9); direct(4, 3, 10); direct(3, 2, 1); direct(2, 1, 1); direct(1, 0, 1);"
            + "told(4) = 8");
        r.calls("paragraphAt(0, 4) = 0; paragraphAt(7, 4) = 1; paragraphAt(6, 4) = 2; paragraphAt(5, 4) = 3; paragraphAt(4, 4) = 4;"
            + "paragraphAt(3, 4) = 5; paragraphAt(2, 4) = 6; paragraphAt(1, 4) = 7; lookAt(7, 0) = 1; lookAt(8, 0) = UNKNOWN");
        r.calls("direct(7, 4, 0); direct(6, 5, 9); direct(5, 4, 9); direct(5, 5, 9); direct(4, 4, 9); direct(3, 3, 99); direct(2, 2, 99);"
            + "paragraphAt(7, 4) = 1; paragraphAt(6, 4) = 2; paragraphAt(5, 4) = 3; paragraphAt(4, 4) = 4; paragraphAt(3, 4) = 5;"
            + "paragraphAt(2, 4) = 6; paragraphAt(1, 4) = 7; lookAt(1, 5) = 9; lookAt(3, 3) = 9; lookAt(4, 3) = 10; lookAt(6, 2) = 99");
    }

    // ---- the best styles

    static void sentenceTheBestStylesOfNoLookAreNone(Run r) {
        r.calls("told(6) = 0; told(7) = 0; style(); sets(0, 2, 40); told(6) = 0; told(7) = 0; adopt() = 0; told(1) = 0");
    }

    /** Two equal paragraphs cost 12 each; as a style 12 and the head cost, and then 1 each. */
    static void sentenceTheBestStylesCostLeast(Run r) {
        r.calls("paragraph(); paragraph(); direct(0, 2, 40); direct(0, 4, 9); direct(1, 2, 40); direct(1, 4, 9);"
            + "head(9); told(6) = 9+12+1+1; told(7) = 1; head(11); told(6) = 12+12; told(7) = 0");
    }

    static void sentenceOfSeveralSetsTheOneWithTheFewestLooks(Run r) {
        r.calls("paragraph(); paragraph(); direct(0, 2, 40); direct(0, 4, 9); direct(1, 2, 40); direct(1, 4, 9);"
            + "head(10); told(6) = 24; told(7) = 0; adopt() = 24; told(1) = 0");
    }

    /**
     * Looks: 0 is (1: 1, 2: 40, 3: 40, 5: 9), twice; 1 is (0: 1, 4: 9); 2 is (0: 1, 2: 40, 4: 9, 5: 9); 3 is (0: 1, 1: 1, 5: 9).
     * Set 9: style 3 costs 1+11, style 0 below it 1+2+12; the paragraphs 1+1, 9, 15 and 1.
     * Set 7: style 1 costs 1+9, style 2 below it 1+14, style 0 below that 1+14; the paragraphs 1+1, 1, 1 and 10.
     */
    static void sentenceTheFewestLooksComeBeforeTheLowestInt(Run r) {
        r.calls("head(1);" + "paragraph();".repeat(5));
        r.each("direct(#, 1, 1); direct(#, 2, 40); direct(#, 3, 40); direct(#, 5, 9)", 0, 1);
        r.calls("direct(2, 0, 1); direct(2, 4, 9); direct(3, 0, 1); direct(3, 2, 40); direct(3, 4, 9); direct(3, 5, 9);"
            + "direct(4, 0, 1); direct(4, 1, 1); direct(4, 5, 9); told(4) = 4; told(6) = 12+15+2+9+15+1; told(7) = 9;"
            + "adopt() = 54; told(1) = 2; styleAt(0, 0) = 1; styleAt(1, 0) = NONE");
    }

    /** Two looks of 19 bits that are 4 apart, each twice: either one serves as the style. */
    static void sentenceOfSeveralSetsOfOneLookTheLowest(Run r) {
        r.calls("paragraph();".repeat(4));
        r.each("direct(#, 2, 40); direct(#, 3, 40); direct(#, 4, 9)", 0, 1, 2, 3);
        r.calls("direct(0, 1, 1); direct(1, 1, 1); direct(2, 0, 1); direct(3, 0, 1); told(4) = 2; told(6) = 25+1+1+5+5; told(7) = 1;"
            + "adopt() = 37; styleHas(0, 1) = 1; styleHas(0, 0) = 0");
    }

    /**
     * Looks: 0 is (5: 9), twice; 1 is (4: 9, 5: 9); 2 is (2: 40, 3: 40, 4: 9, 5: 9); 3 is (0: 1, 2: 40, 3: 40, 4: 9), twice.
     * Set 6: styles 6+14 and 6+2+10, paragraphs 4+4, 1, 1, 6+6. Set 9: styles 6+7 and 6+19, paragraphs 1+1, 8, 10, 1+1.
     * Set 9 has the lower first look, but 6 is the lower int.
     */
    static void sentenceOfSeveralSetsOfTwoLooksTheOneWithTheLowestInt(Run r) {
        r.calls("paragraph();".repeat(6));
        r.calls("direct(0, 5, 9); direct(1, 5, 9); direct(2, 4, 9); direct(2, 5, 9);"
            + "direct(3, 2, 40); direct(3, 3, 40); direct(3, 4, 9); direct(3, 5, 9)");
        r.each("direct(#, 0, 1); direct(#, 2, 40); direct(#, 3, 40); direct(#, 4, 9)", 4, 5);
        r.calls("told(4) = 4; told(6) = 20+18+8+2+12; told(7) = 6; adopt() = 60; told(1) = 2; styleAt(1, 0) = 0");
    }

    /** Paragraphs each of which has the look of the one before and something more; the last look twice. */
    private static void stairs(Run r, int steps) {
        int[][] more = {{2, 40}, {3, 40}, {4, 8}, {5, 8}, {0, 1}, {2, 50}, {3, 50}};
        // Names of 7 bits: it would not pay to take the next style and give the ground's name again.
        r.calls("head(1); ground(4, 9); ground(5, 9)");
        for (int p = 0; p <= steps; p++) {
            r.calls("paragraph()");
            for (int step = 0; step <= Math.min(p, steps - 1); step++) {
                r.calls("direct(" + p + ", " + more[step][0] + ", " + more[step][1] + ")");
            }
            if (p >= 4) {
                r.calls("direct(" + p + ", 1, 1)");
            }
        }
    }

    static void sentenceTheBestStylesAreAtMost6Inside(Run r) {
        stairs(r, 6);
        r.calls("told(4) = 6; told(6) = 6+8+10+10+7+8+7; told(7) = 63; adopt() = 56; told(1) = 6; told(7) = 63");
    }

    /** Seven styles would cost 65; without look 0, 1 or 4 it is one more, so the set is 127 without 16. */
    static void sentenceTheBestStylesAreAtMost6Outside(Run r) {
        stairs(r, 7);
        r.calls("told(4) = 7; told(6) = 66; told(7) = 111; adopt() = 66; told(1) = 6; told(7) = 111; style() = FULL");
    }

    /** Eight looks that differ in a name; as a style, the look with the ground's name is cheapest by 3 bits or more. */
    static void sentenceInASetBitKStandsForNumberK(Run r) {
        r.calls("ground(5, 9);" + "paragraph();".repeat(8));
        r.each("direct(#, 2, 40); direct(#, 3, 40); direct(#, 4, 9)", 0, 1, 2, 3, 4, 5, 6, 7);
        r.each("direct(#, 5, #)", 0, 1, 2, 3, 4, 5, 6);
        r.calls("direct(7, 5, 9); told(4) = 8; paragraphAt(7, 4) = 7; told(6) = 23+8+3+3+4+4+5+5+6; told(7) = 128;"
            + "ground(5, 0); told(6) = 23+8+3+4+4+5+5+6+7; told(7) = 1");
    }

    // ---- the nearest style

    static void sentenceTheNearestStyleIsNoneWithoutStyles(Run r) {
        r.calls("paragraph(); direct(0, 2, 40); paragraphAt(0, 2) = NONE; paragraphAt(0, 3) = 5; paragraphAt(1, 2) = UNKNOWN;"
            + "style(); paragraphAt(0, 2) = NONE; sets(0, 2, 40); paragraphAt(0, 2) = 0; paragraphAt(0, 3) = 1");
    }

    /** The style spares the size, but costs 1 and a name of 3 bits: a size of 4 bits does not pay, one of 5 does. */
    static void sentenceOfEqualNearestStylesNoneComesFirst(Run r) {
        r.calls("style(); sets(0, 2, 9); sets(0, 4, 3); paragraph(); direct(0, 2, 9); paragraphAt(0, 2) = NONE; paragraphAt(0, 3) = 4;"
            + "direct(0, 2, 10); sets(0, 2, 10); paragraphAt(0, 2) = 0; paragraphAt(0, 3) = 1+3");
    }

    static void sentenceOfEqualNearestStylesTheLowestComesNext(Run r) {
        r.calls("style();".repeat(6));
        r.calls("sets(2, 2, 40); sets(4, 2, 40); sets(5, 2, 40); paragraph(); direct(0, 2, 40); paragraphAt(0, 2) = 2;"
            + "direct(0, 0, 1); paragraphAt(0, 2) = 2; paragraphAt(0, 3) = 1+2; sets(5, 0, 1); paragraphAt(0, 2) = 5;"
            + "paragraphAt(0, 3) = 1; sets(4, 0, 1); paragraphAt(0, 2) = 4; paragraphAt(0, 0) = NONE");
    }
}
