/** The document's sentences on what a deed is, on the latest 16 of them, and on what undoing brings back. */
public final class UndoBoundariesTest {
    public static void main(String[] args) throws ReflectiveOperationException {
        Run.all(UndoBoundariesTest.class);
    }

    /** Two styles, the later below the first, two paragraphs, an entry and two images; nothing to undo. */
    private static void family(Run r) {
        r.calls("style(); style(); parent(1, 0); sets(0, 2, 40); paragraph(); paragraph(); apply(0, 1); direct(1, 4, 9); write(0, 2, 40);"
            + "seed(5); keep(0); keep(1)");
    }

    private static void asTheFamilyWas(Run r) {
        r.calls("told(0) = 2; told(1) = 2; told(2) = 11+8+1+7; told(9) = 6; styleAt(1, 0) = 0; styleAt(0, 5) = 4; styleAt(1, 5) = 0;"
            + "paragraphAt(0, 0) = 1; paragraphAt(0, 5) = 0; paragraphAt(1, 0) = NONE; paragraphAt(1, 5) = 16;"
            + "styleHas(NONE, 3) = 0; has(0, 2) = 40; has(1, 4) = 9; told(10) = 1; told(11) = NONE");
    }

    /** Makes a call that is one deed and does not touch the random number, the book and the images. */
    private static void isOneDeed(Run r, String call) {
        r.anew();
        family(r);
        r.calls("told(12) = 0; " + call + "; told(12) = 1; told(13) = 5; undo(1) = 0; undo(1) = NOT");
        asTheFamilyWas(r);
        r.calls("goBack(0) = 1; told(13) = 5");
        asTheFamilyWas(r);
        r.calls("goBack(1) = 1");
        asTheFamilyWas(r);
    }

    static void sentenceTheDeedsAreTheSuccessfulCallsOf16Methods(Run r) {
        isOneDeed(r, "paragraph() = 2");
        isOneDeed(r, "style() = 2");
        isOneDeed(r, "direct(0, 3, 9) = NONE");
        isOneDeed(r, "sets(0, 3, 9) = NONE");
        isOneDeed(r, "ground(3, 9) = 0");
        isOneDeed(r, "head(9) = 6");
        isOneDeed(r, "apply(1, 0) = NONE");
        isOneDeed(r, "parent(1, NONE) = 0");
        isOneDeed(r, "restyle(0, 0) = 1");
        isOneDeed(r, "reparent(1, NONE) = 11");
        isOneDeed(r, "drop(0) = 1");
        isOneDeed(r, "take(0) = 1");
        isOneDeed(r, "swap(0, 1) = 1");
        isOneDeed(r, "tidy() = 0");
        isOneDeed(r, "knit() = 11+8+1+7");
        isOneDeed(r, "adopt() = 5+7");
        isOneDeed(r, "drift(1) = 3; seed(5)");
    }

    static void sentenceADeedCountsAlsoIfNothingBecomesDifferent(Run r) {
        isOneDeed(r, "direct(0, 3, NONE) = NONE");
        isOneDeed(r, "direct(1, 4, 9) = 9");
        isOneDeed(r, "sets(0, 3, NONE) = NONE");
        isOneDeed(r, "sets(0, 2, 40) = 40");
        isOneDeed(r, "ground(3, 0) = 0");
        isOneDeed(r, "head(6) = 6");
        isOneDeed(r, "apply(0, 1) = 1");
        isOneDeed(r, "apply(1, NONE) = NONE");
        isOneDeed(r, "parent(1, 0) = 0");
        isOneDeed(r, "parent(0, NONE) = NONE");
        isOneDeed(r, "restyle(0, 1) = 1");
        isOneDeed(r, "reparent(1, 0) = 8");
        isOneDeed(r, "swap(1, 1) = 0");
        r.anew();
        r.calls("told(12) = 0; tidy() = 0; told(12) = 1; knit() = 0; told(12) = 2; adopt() = 0; told(12) = 3; undo(3) = 0");
    }

    static void sentenceTheOtherCallsAreNoDeeds(Run r) {
        r.calls("style(); paragraph(); told(12) = 2; has(0, 0); from(0, 0); paragraphAt(0, 0); styleAt(0, 0); styleHas(0, 0);"
            + "lookAt(0, 0); apart(0, NONE); told(7); write(0, 0, 1); tear(); write(0, 0, 1); seed(5); told(12) = 2;"
            + "undo(1) = 1; told(12) = 1; told(0) = 0; told(1) = 1; keep(0); told(12) = 0; style(); told(12) = 1; goBack(0); told(12) = 0");
    }

    /** The book, the random number and the images have nothing to do with each other, nor with what can be undone. */
    static void sentenceWriteTearAndSeedChangeNothingElse(Run r) {
        for (String call : new String[] {"tear() = 1; write(0, 2, 40) = 1", "write(0, 0, 0) = 2; tear() = 2; write(0, 2, 40)", "seed(9) = 5; seed(5) = 9"}) {
            r.anew();
            family(r);
            r.calls("direct(0, 2, 40) = NONE; " + call + "; told(13) = 5; told(12) = 1; told(3) = 1; undo(1) = 0");
            asTheFamilyWas(r);
            r.calls("goBack(0) = 1; told(13) = 5");
            asTheFamilyWas(r);
            r.calls("goBack(1) = 1; told(13) = 5");
            asTheFamilyWas(r);
        }
    }

    static void sentenceARefusedCallIsNoDeed(Run r) {
        r.calls("style(); paragraph(); parent(0, 0) = NOT; direct(0, 0, 2) = OUTSIDE; head(21) = OUTSIDE; apply(0, 1) = UNKNOWN;"
            + "drift(9) = OUTSIDE; undo(3) = NOT; told(12) = 2; undo(2) = 0");
    }

    static void sentenceEachParagraphThatDriftCreatesIsADeed(Run r) {
        r.calls("paragraph(); drift(5) = 6; told(12) = 6; undo(1) = 5; told(0) = 5; undo(4) = 1; told(0) = 1; drift(6) = 7;"
            + "told(12) = 7; drift(8) = 8; told(12) = 8; drift(8) = 8; told(12) = 8; undo(8) = 0; told(0) = 0");
    }

    static void sentenceAtMostTheLatest16DeedsCanBeUndoneInside(Run r) {
        r.calls("paragraph(); told(12) = 1");
        for (int v = 2; v <= 15; v++) {
            r.calls("direct(0, 2, " + v + "); told(12) = " + v);
        }
        r.calls("undo(16) = NOT; direct(0, 2, 16); told(12) = 16; undo(16) = 0; told(0) = 0; undo(1) = NOT");
    }

    static void sentenceAtMostTheLatest16DeedsCanBeUndoneOutside(Run r) {
        r.calls("paragraph()");
        for (int v = 2; v <= 17; v++) {
            r.calls("direct(0, 2, " + v + ")");
        }
        r.calls("told(12) = 16; undo(16) = 0; told(0) = 1; paragraphAt(0, 5) = 0; undo(1) = NOT");
    }

    /** 21 deeds, 5 undone, 6 more: of direct 1 to 15 and 31 to 36 the latest 16 go, and 5 is left. */
    static void sentenceTheLatest16GoRoundAndRound(Run r) {
        r.calls("paragraph()");
        for (int v = 1; v <= 20; v++) {
            r.calls("direct(0, 2, " + v + ")");
        }
        r.calls("told(12) = 16; undo(5) = 11; has(0, 2) = 15; undo(12) = NOT");
        for (int v = 31; v <= 36; v++) {
            r.calls("direct(0, 2, " + v + ")");
        }
        r.calls("told(12) = 16; undo(6) = 10; has(0, 2) = 15; undo(9) = 1; has(0, 2) = 6; undo(1) = 0; has(0, 2) = 5; undo(1) = NOT");
    }

    static void sentenceUndoingOneByOneAndAllAtOnceAreTheSame(Run r) {
        r.calls("paragraph()");
        for (int v = 1; v <= 20; v++) {
            r.calls("direct(0, 2, " + v + ")");
        }
        for (int v = 19; v >= 4; v--) {
            r.calls("undo(1) = " + (v - 4) + "; has(0, 2) = " + v);
        }
        r.calls("undo(1) = NOT; has(0, 2) = 4");
    }

    static void sentenceStylesParagraphsGroundAndHeadCostBecomeAsBefore(Run r) {
        family(r);
        r.calls("ground(5, 9); head(20); sets(1, 3, 8); drop(0); take(0); direct(0, 1, 1); style(); adopt(); told(12) = 8; undo(8) = 0;"
            + "told(0) = 2; told(1) = 2; told(9) = 6; styleHas(NONE, 5) = 0; styleAt(1, 0) = 0; styleAt(1, 5) = 0; styleHas(1, 2) = 40;"
            + "paragraphAt(0, 0) = 1; paragraphAt(1, 0) = NONE; paragraphAt(1, 5) = 16; has(1, 4) = 9");
    }

    /** All eight go and eight others come: 16 deeds. */
    static void sentenceAllEightParagraphsBecomeAsBefore(Run r) {
        Filled.make(r);
        r.calls("take(0);".repeat(8) + "drift(8) = 8; told(12) = 16; undo(16) = 0");
        Filled.paragraphs(r);
    }

    static void sentenceAllSixStylesBecomeAsBefore(Run r) {
        Filled.make(r);
        r.calls("drop(0);".repeat(6) + "style();".repeat(6) + "parent(0, 5); undo(13) = 3");
        Filled.styles(r);
        Filled.paragraphs(r);
    }

    static void sentenceAllSixValuesOfTheGroundBecomeAsBefore(Run r) {
        r.calls("ground(0, 1); ground(1, 1); ground(2, 99); ground(3, 98); ground(4, 9); ground(5, 8); head(20);"
            + "ground(0, 0); ground(1, 0); ground(2, 0); ground(3, 0); ground(4, 0); ground(5, 0); head(1); undo(7) = 7;"
            + "styleHas(NONE, 0) = 1; styleHas(NONE, 1) = 1; styleHas(NONE, 2) = 99; styleHas(NONE, 3) = 98;"
            + "styleHas(NONE, 4) = 9; styleHas(NONE, 5) = 8; told(9) = 20");
    }

    static void sentenceTheRandomNumberStaysWhenSomethingIsUndone(Run r) {
        r.calls("drift(1); told(13) = 794471793; undo(1) = 0; told(13) = 794471793; paragraph(); seed(7) = 794471793; undo(1) = 0;"
            + "told(13) = 7; seed(794471793) = 7; drift(1); told(13) = 1157490780");
    }

    static void sentenceTheBookStaysWhenSomethingIsUndone(Run r) {
        r.calls("paragraph(); direct(0, 2, 9); write(0, 2, 9) = 1; told(11) = NONE; undo(1) = 1; told(10) = 1; told(11) = 0;"
            + "direct(0, 2, 9); told(11) = NONE; undo(2) = 0; told(10) = 1; told(11) = 0; paragraph(); tear() = 1; undo(1) = 0; told(10) = 0");
    }
}
